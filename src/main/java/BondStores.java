/**
 * Goods moved between bonded stores while their duty sleeps. The promises that this class keeps
 * are numbered in the project's document; a word in capitals there is told here by the class or
 * field of that name.
 */
public final class BondStores {
    /** There is none. */
    public static final int NONE = -1;

    private static final int BAD_NUMBER = -1;
    private static final int NO_SUCH = -2;
    private static final int CANNOT_BE = -4;
    private static final int NO_ROOM = -5;

    private static final int LAST_DAY = 9999;
    private static final int KINDS = 5;
    private static final int MOST_GUARANTORS = 4;
    private static final int MOST_STORES = 6;
    private static final int MOST_LOADS = 40;
    private static final int MOST_RATES = 12;
    private static final int MOST_MONEY = 9999999;
    private static final int MOST_STOCK = 99999;
    private static final int MOST_QUANTITY = 9999;
    private static final int MOST_RATE = 999;
    private static final int MOST_ALLOWS = 99;
    private static final int MOST_CAP = 999;
    private static final int MOST_GRACE = 60;
    private static final int MOST_RANK = 9;
    private static final int MOST_DAYS = 90;
    private static final int MOST_DAYS_EXTENDED = 180;
    private static final int MOST_ALLOWANCE_DAYS = 999;
    private static final int DAYS_LOOKED_AT = 400;
    private static final int WHOLE = 10000;
    private static final int MOST_KEPT = 8;
    private static final int IMAGES = 2;
    private static final int MOST_FITTED = 10;
    private static final int MOST_EXPLAINING = 12;

    private static final int WAITS = 0;
    private static final int GOES = 1;
    private static final int ENDED = 2;
    private static final int LOST = 3;
    private static final int WITHDRAWN = 4;

    private static final int ACT_GUARANTOR = 0;
    private static final int ACT_LIMIT = 1;
    private static final int ACT_PAY = 2;
    private static final int ACT_STORE = 3;
    private static final int ACT_ORDER = 4;
    private static final int ACT_STOCK = 5;
    private static final int ACT_ALLOWS = 6;
    private static final int ACT_RATE = 7;
    private static final int ACT_TERMS = 8;
    private static final int ACT_LOAD = 9;
    private static final int ACT_WITHDRAW = 10;
    private static final int ACT_ARRIVE = 11;
    private static final int ACT_MATCH = 12;
    private static final int ACT_SPLIT = 13;
    private static final int ACT_USE = 14;
    private static final int ACT_DAYS = 15;
    private static final int ACT_SHIFT = 16;
    private static final int ACT_EXTEND = 17;
    private static final int ACT_DIVERT = 18;

    private final Book now = new Book();
    /** Made at its first use, as are the kept books and the images: most objects never need all. */
    private Book paper;
    private final Book[] images = new Book[IMAGES];
    private final Book[] keptBooks = new Book[MOST_KEPT];
    private final int[] keptActs = new int[MOST_KEPT];
    private int keptFirst;
    private int keptCount;
    private int lastRefusal;
    private int badNumbers;
    private int noSuches;
    private int cannotBes;
    private int noRooms;
    private final int[] amounts = new int[MOST_EXPLAINING];

    /** Promise 1. */
    public BondStores() {
    }

    /** Promise 2. */
    public int guarantor(int limit) {
        if (isOutside(limit, 0, MOST_MONEY)) {
            return refused(BAD_NUMBER);
        }
        if (now.guarantorCount >= MOST_GUARANTORS) {
            return refused(NO_ROOM);
        }
        keep(ACT_GUARANTOR);
        return acted(now.addGuarantor(limit));
    }

    /** Promise 3. */
    public int limit(int guarantor, int v) {
        if (isOutside(v, 0, MOST_MONEY)) {
            return refused(BAD_NUMBER);
        }
        if (!now.hasGuarantor(guarantor)) {
            return refused(NO_SUCH);
        }
        Guarantor g = now.guarantors[guarantor];
        if (v < g.held + g.due) {
            return refused(CANNOT_BE);
        }
        keep(ACT_LIMIT);
        int was = g.limit;
        g.limit = v;
        return acted(was);
    }

    /** Promise 4. */
    public int pay(int guarantor, int amount) {
        if (isOutside(amount, 1, MOST_MONEY)) {
            return refused(BAD_NUMBER);
        }
        if (!now.hasGuarantor(guarantor)) {
            return refused(NO_SUCH);
        }
        Guarantor g = now.guarantors[guarantor];
        if (amount > g.due) {
            return refused(CANNOT_BE);
        }
        keep(ACT_PAY);
        g.due -= amount;
        g.paidInAll += amount;
        return acted(g.due);
    }

    /** Promise 5. */
    public int store(int a, int b, int c) {
        if (!now.isOrder(a, b, c)) {
            return refused(BAD_NUMBER);
        }
        if (now.storeCount >= MOST_STORES) {
            return refused(NO_ROOM);
        }
        keep(ACT_STORE);
        return acted(now.addStore(a, b, c));
    }

    /** Promise 6. */
    public int order(int store, int a, int b, int c) {
        if (!now.isOrder(a, b, c)) {
            return refused(BAD_NUMBER);
        }
        if (!now.hasStore(store)) {
            return refused(NO_SUCH);
        }
        keep(ACT_ORDER);
        now.stores[store].lineUp(a, b, c);
        return acted(0);
    }

    /** Promise 7. */
    public int stock(int store, int kind, int more) {
        if (!isKind(kind) || isOutside(more, 1, MOST_STOCK)) {
            return refused(BAD_NUMBER);
        }
        if (!now.hasStore(store)) {
            return refused(NO_SUCH);
        }
        Store s = now.stores[store];
        if (!s.canTake(kind, more)) {
            return refused(CANNOT_BE);
        }
        keep(ACT_STOCK);
        s.stockOf[kind] += more;
        return acted(s.stockOf[kind]);
    }

    /** Promise 8. */
    public int allows(int kind, int what, int v) {
        if (!isKind(kind) || isOutside(what, 0, 1)
                || isOutside(v, 0, what == 0 ? MOST_ALLOWS : MOST_CAP)) {
            return refused(BAD_NUMBER);
        }
        keep(ACT_ALLOWS);
        Kind k = now.kinds[kind];
        int was;
        if (what == 0) {
            was = k.allowsPerDay;
            k.allowsPerDay = v;
        } else {
            was = k.cap;
            k.cap = v;
        }
        return acted(was);
    }

    /** Promise 9. */
    public int rate(int kind, int from, int v) {
        if (!isKind(kind) || isOutside(from, 0, LAST_DAY) || isOutside(v, 0, MOST_RATE)) {
            return refused(BAD_NUMBER);
        }
        boolean isTime = from > now.day || now.day == 0;
        if (!isTime || !onPaper().tellRate(kind, from, v)) {
            return refused(CANNOT_BE);
        }
        Kind k = now.kinds[kind];
        if (!k.isToldFrom(from) && k.told >= MOST_RATES) {
            return refused(NO_ROOM);
        }
        keep(ACT_RATE);
        int was = k.rateAt(from);
        now.tellRate(kind, from, v);
        return acted(was);
    }

    /** Promise 10. */
    public int terms(int what, int v) {
        if (isOutside(what, 0, 1) || isOutside(v, 0, what == 0 ? MOST_GRACE : 1)) {
            return refused(BAD_NUMBER);
        }
        keep(ACT_TERMS);
        int was;
        if (what == 0) {
            was = now.grace;
            now.grace = v;
        } else {
            was = now.strict;
            now.strict = v;
        }
        return acted(was);
    }

    /** Promise 11. */
    public int load(int from, int to, int kind, int quantity, int days, int rank) {
        if (!isKind(kind) || isOutside(quantity, 1, MOST_QUANTITY)
                || isOutside(days, 1, MOST_DAYS) || isOutside(rank, 0, MOST_RANK)) {
            return refused(BAD_NUMBER);
        }
        if (!now.hasStore(from) || !now.hasStore(to)) {
            return refused(NO_SUCH);
        }
        Store s = now.stores[from];
        if (from == to || s.stockOf[kind] < quantity) {
            return refused(CANNOT_BE);
        }
        if (now.loadCount >= MOST_LOADS) {
            return refused(NO_ROOM);
        }
        keep(ACT_LOAD);
        s.stockOf[kind] -= quantity;
        int number = now.loadCount;
        Load l = now.loads[number];
        l.ask(from, to, kind, quantity);
        l.days = days;
        l.rank = rank;
        now.loadCount++;
        return acted(number);
    }

    /** Promise 12. */
    public int withdraw(int load) {
        if (!now.hasLoad(load)) {
            return refused(NO_SUCH);
        }
        Load l = now.loads[load];
        Store s = now.stores[l.from];
        if (l.state != WAITS || !s.canTake(l.kind, l.quantity)) {
            return refused(CANNOT_BE);
        }
        keep(ACT_WITHDRAW);
        l.state = WITHDRAWN;
        s.stockOf[l.kind] += l.quantity;
        acted(0);
        return now.countInState(WAITS);
    }

    /** Promise 13. */
    public int arrive(int load, int quantity, boolean last, int loss) {
        if (isOutside(quantity, 0, MOST_QUANTITY) || last && isOutside(loss, 0, LAST_DAY)) {
            return refused(BAD_NUMBER);
        }
        if (!now.hasLoad(load)) {
            return refused(NO_SUCH);
        }
        Load l = now.loads[load];
        if (!canArrive(l, quantity, last) || last && !now.canBeLostOn(l, loss)) {
            return refused(CANNOT_BE);
        }
        keep(ACT_ARRIVE);
        now.receive(l, quantity);
        if (last || l.rest() == 0) {
            now.close(l, ENDED, loss);
        }
        return acted(l.rest());
    }

    private boolean canArrive(Load l, int quantity, boolean last) {
        return l.state == GOES && quantity <= l.rest() && (quantity > 0 || last)
                && now.stores[l.to].canTake(l.kind, quantity);
    }

    /** Promise 14. */
    public int match(int store, int kind, int quantity) {
        if (!isKind(kind) || isOutside(quantity, 1, MOST_STOCK)) {
            return refused(BAD_NUMBER);
        }
        if (!now.hasStore(store)) {
            return refused(NO_SUCH);
        }
        if (now.restsTo(store, kind) < quantity || !now.stores[store].canTake(kind, quantity)) {
            return refused(CANNOT_BE);
        }
        keep(ACT_MATCH);
        return acted(now.receiveUnnumbered(store, kind, quantity));
    }

    /** Promise 15. */
    public int split(int load, int quantity, int to) {
        if (isOutside(quantity, 1, MOST_QUANTITY)) {
            return refused(BAD_NUMBER);
        }
        if (!now.hasLoad(load) || !now.hasStore(to)) {
            return refused(NO_SUCH);
        }
        Load l = now.loads[load];
        if (!l.canTurnTo(to) || l.came > 0 || quantity >= l.quantity) {
            return refused(CANNOT_BE);
        }
        if (now.loadCount >= MOST_LOADS) {
            return refused(NO_ROOM);
        }
        keep(ACT_SPLIT);
        return acted(now.splitOff(load, quantity, to));
    }

    /** Promise 16. */
    public int use(int store, int kind, int quantity) {
        if (!isKind(kind) || isOutside(quantity, 1, MOST_STOCK)) {
            return refused(BAD_NUMBER);
        }
        if (!now.hasStore(store)) {
            return refused(NO_SUCH);
        }
        Store s = now.stores[store];
        int amount = quantity * now.kinds[kind].rateAt(now.day);
        if (s.stockOf[kind] < quantity || now.freeFor(s) < amount) {
            return refused(CANNOT_BE);
        }
        keep(ACT_USE);
        s.stockOf[kind] -= quantity;
        now.makeDueAtOnce(s, amount);
        return acted(amount);
    }

    /** Promise 17. */
    public int shift(int load, int from, int to) {
        if (!now.hasLoad(load) || !now.hasGuarantor(from) || !now.hasGuarantor(to)) {
            return refused(NO_SUCH);
        }
        Load l = now.loads[load];
        int amount = l.heldOf[from];
        if (from == to || l.state != GOES || amount == 0 || now.guarantors[to].free() < amount) {
            return refused(CANNOT_BE);
        }
        keep(ACT_SHIFT);
        l.heldOf[from] = 0;
        l.heldOf[to] += amount;
        now.guarantors[from].held -= amount;
        now.guarantors[to].held += amount;
        return acted(amount);
    }

    /** Promise 18. */
    public int extend(int load, int more) {
        if (isOutside(more, 1, MOST_DAYS)) {
            return refused(BAD_NUMBER);
        }
        if (!now.hasLoad(load)) {
            return refused(NO_SUCH);
        }
        Load l = now.loads[load];
        if (l.state != GOES || l.days + more > MOST_DAYS_EXTENDED || now.isOverdue(l)
                || now.lacksToExtend(l, more)) {
            return refused(CANNOT_BE);
        }
        keep(ACT_EXTEND);
        l.days += more;
        now.holdAnew(l);
        return acted(l.latest());
    }

    /** Promise 19. */
    public int divert(int load, int to) {
        if (!now.hasLoad(load) || !now.hasStore(to)) {
            return refused(NO_SUCH);
        }
        Load l = now.loads[load];
        if (!l.canTurnTo(to)) {
            return refused(CANNOT_BE);
        }
        keep(ACT_DIVERT);
        int was = l.to;
        l.to = to;
        return acted(was);
    }

    /** Promise 20. */
    public int days(int n) {
        if (isOutside(n, 1, MOST_DAYS)) {
            return refused(BAD_NUMBER);
        }
        if (now.day + n > LAST_DAY) {
            return refused(CANNOT_BE);
        }
        keep(ACT_DAYS);
        return acted(now.passDays(n));
    }

    /** Promise 21. */
    public int undo() {
        if (keptCount == 0) {
            return refused(CANNOT_BE);
        }
        keptCount--;
        int slot = (keptFirst + keptCount) % MOST_KEPT;
        Book was = keptBooks[slot];
        if (was != null) {
            now.copyFrom(was);
        }
        lastRefusal = 0;
        return keptActs[slot];
    }

    /** Promise 22. */
    public int image(int k) {
        if (isOutside(k, 0, IMAGES - 1)) {
            return refused(BAD_NUMBER);
        }
        images[k] = copied(images[k]);
        lastRefusal = 0;
        return now.day;
    }

    /** Promise 23. */
    public int back(int k) {
        if (isOutside(k, 0, IMAGES - 1)) {
            return refused(BAD_NUMBER);
        }
        Book kept = images[k];
        if (kept == null) {
            return refused(CANNOT_BE);
        }
        now.copyFrom(kept);
        keptCount = 0;
        lastRefusal = 0;
        return now.day;
    }

    /** Promise 24. */
    public int ofGuarantor(int guarantor, int what) {
        if (!now.hasGuarantor(guarantor)) {
            return NONE;
        }
        Guarantor g = now.guarantors[guarantor];
        switch (what) {
            case 0:
                return g.limit;
            case 1:
                return g.held;
            case 2:
                return g.due;
            case 3:
                return g.free();
            default:
                return NONE;
        }
    }

    /** Promise 25. */
    public long total(int guarantor, int what) {
        boolean ofAll = guarantor == NONE;
        if (isOutside(what, 0, 1) || !ofAll && !now.hasGuarantor(guarantor)) {
            return NONE;
        }
        long sum = 0;
        for (int i = 0; i < now.guarantorCount; i++) {
            if (ofAll || i == guarantor) {
                Guarantor g = now.guarantors[i];
                sum += what == 0 ? g.dueInAll : g.paidInAll;
            }
        }
        return sum;
    }

    /** Promise 26. */
    public int ofStore(int store, int what) {
        if (!now.hasStore(store)) {
            return NONE;
        }
        Store s = now.stores[store];
        if (isKind(what)) {
            return s.stockOf[what];
        }
        if (what == KINDS) {
            return now.freeFor(s);
        }
        if (what > KINDS && what - KINDS <= s.ordered) {
            return s.line[what - KINDS - 1];
        }
        return NONE;
    }

    /** Promise 27. */
    public int ofLoad(int load, int what) {
        if (!now.hasLoad(load)) {
            return NONE;
        }
        Load l = now.loads[load];
        switch (what) {
            case 0:
                return l.state;
            case 1:
                return l.from;
            case 2:
                return l.to;
            case 3:
                return l.kind;
            case 4:
                return l.quantity;
            case 5:
                return l.days;
            case 6:
                return l.rank;
            case 7:
                return l.begun;
            case 8:
                return l.came;
            case 9:
                return l.heldNow();
            case 10:
                return l.duty;
            case 11:
                return l.shortage;
            case 12:
                return l.allowed;
            case 13:
                return now.needOf(l);
            case 14:
                return l.splitOf;
            default:
                return NONE;
        }
    }

    /** Promise 28. */
    public long sums(int load, int what) {
        if (!now.hasLoad(load) || isOutside(what, 0, 1)) {
            return NONE;
        }
        Load l = now.loads[load];
        return what == 0 ? l.heldInAll : l.releasedInAll;
    }

    /** Promise 29. */
    public int held(int load, int guarantor) {
        if (!now.hasLoad(load) || !now.hasGuarantor(guarantor)) {
            return NONE;
        }
        return now.loads[load].heldOf[guarantor];
    }

    /** Promise 30. */
    public int rateOn(int kind, int day) {
        if (!isKind(kind) || isOutside(day, 0, LAST_DAY)) {
            return NONE;
        }
        return now.kinds[kind].rateAt(day);
    }

    /** Promise 31. */
    public int allowance(int kind, int q, int t) {
        if (!isKind(kind) || isOutside(q, 0, MOST_QUANTITY)
                || isOutside(t, 0, MOST_ALLOWANCE_DAYS)) {
            return NONE;
        }
        return now.kinds[kind].allowanceOf(q, t);
    }

    /** Promise 32. */
    public int listed(int what, int i) {
        int size = 0;
        if (what == 0) {
            size = now.lineUpWaiting();
        } else if (what == 1) {
            size = now.lineUpGoing();
        } else if (what == 2) {
            size = now.lineUpLate();
        }
        return isOutside(i, 0, size - 1) ? NONE : now.inRow(i);
    }

    /** Promise 33. */
    public int room(int store, int kind, int days) {
        if (!now.hasStore(store) || !isKind(kind) || isOutside(days, 1, MOST_DAYS)) {
            return NONE;
        }
        int each = now.kinds[kind].greatestRate(now.day, now.day + days);
        if (each <= 0) {
            return MOST_QUANTITY;
        }
        return Math.min(MOST_QUANTITY, now.freeFor(now.stores[store]) / each);
    }

    /** Promise 34. */
    public int cheapest(int kind, int days, int what) {
        if (!isKind(kind) || isOutside(days, 1, MOST_DAYS_EXTENDED) || isOutside(what, 0, 1)) {
            return NONE;
        }
        Kind k = now.kinds[kind];
        int day = k.cheapestDay(now.day, now.day + DAYS_LOOKED_AT - 1, days);
        return what == 0 ? day : k.greatestRate(day, day + days);
    }

    /** Promise 35. */
    public int behind(int guarantor, int what) {
        if (!now.hasGuarantor(guarantor)) {
            return NONE;
        }
        int many = 0;
        int greatest = NONE;
        int latest = NONE;
        int late = 0;
        for (int i = 0; i < now.loadCount; i++) {
            Load l = now.loads[i];
            int amount = l.heldOf[guarantor];
            if (l.state == GOES && amount > 0) {
                many++;
                if (greatest == NONE || amount > now.loads[greatest].heldOf[guarantor]) {
                    greatest = i;
                }
                latest = Math.max(latest, l.latest());
                late += now.isLate(l) ? amount : 0;
            }
        }
        switch (what) {
            case 0:
                return many;
            case 1:
                return greatest;
            case 2:
                return latest;
            case 3:
                return late;
            default:
                return NONE;
        }
    }

    /** Promise 36. */
    public int freed(int guarantor, int more) {
        if (!now.hasGuarantor(guarantor) || isOutside(more, 1, MOST_MONEY)) {
            return NONE;
        }
        Book copy = onPaper();
        copy.guarantors[guarantor].limit += more;
        copy.takeTurns();
        return copy.countInState(GOES) - now.countInState(GOES);
    }

    /** Promise 37. */
    public int lacks(int guarantor) {
        if (!now.hasGuarantor(guarantor) || now.lineUpWaiting() == 0) {
            return NONE;
        }
        Load l = now.loads[now.inRow(0)];
        Store s = now.stores[l.from];
        int missing = now.needOf(l) - now.freeFor(s);
        if (missing <= 0) {
            return 0;
        }
        return s.isOrdered(guarantor) && missing <= MOST_MONEY ? missing : NONE;
    }

    /** Promise 38. */
    public int best(int guarantor, int what) {
        if (!now.hasGuarantor(guarantor) || isOutside(what, 0, 1)) {
            return NONE;
        }
        int waiting = now.lineUpWaiting();
        int size = 0;
        for (int i = 0; i < waiting && size < MOST_FITTED; i++) {
            Load l = now.loads[now.inRow(i)];
            Store s = now.stores[l.from];
            if (s.ordered == 1 && s.line[0] == guarantor) {
                amounts[size] = now.needOf(l);
                size++;
            }
        }
        int bits = fullestBits(size, now.guarantors[guarantor].free());
        return what == 0 ? bits : sumOfBits(size, bits);
    }

    /** Promise 39. */
    public int explains(int store, int kind, int quantity, int what) {
        if (!now.hasStore(store) || !isKind(kind) || isOutside(quantity, 1, MOST_STOCK)
                || isOutside(what, 0, 1)) {
            return NONE;
        }
        int size = Math.min(MOST_EXPLAINING, now.lineUpGoingTo(store, kind));
        for (int i = 0; i < size; i++) {
            amounts[i] = now.loads[now.inRow(i)].rest();
        }
        int bits = fewestBits(size, quantity);
        if (bits == 0) {
            return NONE;
        }
        return what == 0 ? bits : Integer.bitCount(bits);
    }

    /** Promise 40. */
    public int would(int n, int what) {
        if (isOutside(n, 1, MOST_DAYS) || now.day + n > LAST_DAY || isOutside(what, 0, 3)) {
            return NONE;
        }
        Book copy = onPaper();
        int lost = copy.passDays(n);
        switch (what) {
            case 0:
                return copy.dueOfAll();
            case 1:
                return lost;
            case 2:
                return copy.countInState(WAITS);
            default:
                return copy.heldOfAll();
        }
    }

    /** Promise 41. */
    public int dutyIf(int load, int quantity, int loss) {
        if (!now.hasLoad(load)) {
            return NONE;
        }
        Load l = now.loads[load];
        if (l.state != GOES || isOutside(quantity, 0, l.rest()) || !now.canBeLostOn(l, loss)) {
            return NONE;
        }
        int shortage = l.rest() - quantity;
        return now.dutyOn(l, shortage - now.allowedOf(l, shortage), loss);
    }

    /** Promise 42. */
    public int dayOf(int load, int what) {
        if (!now.hasLoad(load) || isOutside(what, 0, 1)) {
            return NONE;
        }
        Load l = now.loads[load];
        if (l.state != GOES) {
            return NONE;
        }
        return now.kinds[l.kind].extremeDay(l.begun, now.lastDayOut(l), what == 1);
    }

    /** Promise 43. */
    public int count(int what) {
        switch (what) {
            case 0:
                return now.day;
            case 1:
                return now.guarantorCount;
            case 2:
                return now.storeCount;
            case 3:
                return now.loadCount;
            case 4:
            case 5:
            case 6:
            case 7:
            case 8:
                return now.countInState(what - 4);
            case 9:
                return now.heldOfAll();
            case 10:
                return now.dueOfAll();
            case 11:
                return now.stockOfAll();
            case 12:
                return keptCount;
            case 13:
                return now.grace;
            case 14:
                return now.strict;
            case 15:
                return badNumbers;
            case 16:
                return noSuches;
            case 17:
                return cannotBes;
            case 18:
                return noRooms;
            default:
                return NONE;
        }
    }

    /** Promise 44. */
    public int status() {
        return lastRefusal;
    }

    private int refused(int by) {
        lastRefusal = by;
        if (by == BAD_NUMBER) {
            badNumbers++;
        } else if (by == NO_SUCH) {
            noSuches++;
        } else if (by == CANNOT_BE) {
            cannotBes++;
        } else {
            noRooms++;
        }
        return by;
    }

    private int acted(int answer) {
        now.takeTurns();
        lastRefusal = 0;
        return answer;
    }

    /** Called ahead of an act's first change, behind its last reason to refuse. */
    private void keep(int act) {
        if (keptCount == MOST_KEPT) {
            keptFirst = (keptFirst + 1) % MOST_KEPT;
        } else {
            keptCount++;
        }
        int slot = (keptFirst + keptCount - 1) % MOST_KEPT;
        keptBooks[slot] = copied(keptBooks[slot]);
        keptActs[slot] = act;
    }

    private Book onPaper() {
        paper = copied(paper);
        return paper;
    }

    private Book copied(Book old) {
        Book target = old == null ? new Book() : old;
        target.copyFrom(now);
        return target;
    }

    private static boolean isOutside(int v, int least, int most) {
        return v < least || v > most;
    }

    private static boolean isKind(int kind) {
        return kind >= 0 && kind < KINDS;
    }

    /** Of the first amounts those that are together most, and not above a bound. */
    private int fullestBits(int size, int bound) {
        int found = 0;
        int foundSum = 0;
        int sum = 0;
        for (int bits = 1; bits < 1 << size; bits++) {
            sum += changeTo(bits, size);
            if (sum <= bound && sum > foundSum) {
                found = bits;
                foundSum = sum;
            }
        }
        return found;
    }

    /** Of the first amounts the fewest that are together just so much; 0 without. */
    private int fewestBits(int size, int wanted) {
        int found = 0;
        int sum = 0;
        for (int bits = 1; bits < 1 << size; bits++) {
            sum += changeTo(bits, size);
            if (sum == wanted
                    && (found == 0 || Integer.bitCount(bits) < Integer.bitCount(found))) {
                found = bits;
            }
        }
        return found;
    }

    /** How the sum changes from the bits one below: a counter's step clears ones and sets one. */
    private int changeTo(int bits, int size) {
        int change = 0;
        for (int i = 0; i < size; i++) {
            if ((bits >> i & 1) == 1) {
                return change + amounts[i];
            }
            change -= amounts[i];
        }
        return change;
    }

    private int sumOfBits(int size, int bits) {
        int sum = 0;
        for (int i = 0; i < size; i++) {
            if ((bits >> i & 1) == 1) {
                sum += amounts[i];
            }
        }
        return sum;
    }

    private static final class Guarantor {
        int limit;
        int held;
        int due;
        long dueInAll;
        long paidInAll;

        int free() {
            return limit - held - due;
        }

        void addDue(int amount) {
            due += amount;
            dueInAll += amount;
        }

        void begin(int firstLimit) {
            limit = firstLimit;
            held = 0;
            due = 0;
            dueInAll = 0;
            paidInAll = 0;
        }

        void copyFrom(Guarantor other) {
            limit = other.limit;
            held = other.held;
            due = other.due;
            dueInAll = other.dueInAll;
            paidInAll = other.paidInAll;
        }
    }

    private static final class Store {
        final int[] stockOf = new int[KINDS];
        /** All numbers of GUARANTORS: those of the order, then the others by rising numbers. */
        final int[] line = new int[MOST_GUARANTORS];
        int ordered;

        void begin(int a, int b, int c) {
            for (int i = 0; i < KINDS; i++) {
                stockOf[i] = 0;
            }
            lineUp(a, b, c);
        }

        void lineUp(int a, int b, int c) {
            int size = append(a, 0);
            size = append(b, size);
            size = append(c, size);
            ordered = size;
            for (int g = 0; g < MOST_GUARANTORS; g++) {
                if (!isOrdered(g)) {
                    size = append(g, size);
                }
            }
        }

        private int append(int guarantor, int size) {
            if (guarantor == NONE || size >= MOST_GUARANTORS) {
                return size;
            }
            line[size] = guarantor;
            return size + 1;
        }

        boolean isOrdered(int guarantor) {
            for (int i = 0; i < ordered; i++) {
                if (line[i] == guarantor) {
                    return true;
                }
            }
            return false;
        }

        boolean canTake(int kind, int more) {
            return stockOf[kind] + more <= MOST_STOCK;
        }

        void copyFrom(Store other) {
            System.arraycopy(other.stockOf, 0, stockOf, 0, KINDS);
            System.arraycopy(other.line, 0, line, 0, MOST_GUARANTORS);
            ordered = other.ordered;
        }
    }

    private static final class Kind {
        /** By rising days; one place more than is kept, for a RATE that is only tried. */
        final int[] fromDay = new int[MOST_RATES + 1];
        final int[] rateFrom = new int[MOST_RATES + 1];
        int told;
        int allowsPerDay;
        int cap;

        int rateAt(int day) {
            int found = 0;
            for (int i = 0; i < told && fromDay[i] <= day; i++) {
                found = rateFrom[i];
            }
            return found;
        }

        int greatestRate(int first, int last) {
            int greatest = 0;
            for (int i = 0; i < told && fromDay[i] <= last; i++) {
                greatest = fromDay[i] <= first ? rateFrom[i] : Math.max(greatest, rateFrom[i]);
            }
            return greatest;
        }

        /** RATES change only on days that are told, so no other day need be looked at. */
        int extremeDay(int first, int last, boolean wantsGreatest) {
            int day = first;
            int found = rateAt(first);
            for (int i = 0; i < told; i++) {
                boolean isWithin = fromDay[i] > first && fromDay[i] <= last;
                if (isWithin && (wantsGreatest ? rateFrom[i] > found : rateFrom[i] < found)) {
                    day = fromDay[i];
                    found = rateFrom[i];
                }
            }
            return day;
        }

        /** A span's greatest RATE falls only where one leaves it: where it begins on a told day. */
        int cheapestDay(int first, int last, int span) {
            int day = first;
            int found = greatestRate(first, first + span);
            for (int i = 0; i < told; i++) {
                if (fromDay[i] > first && fromDay[i] <= last) {
                    int greatest = greatestRate(fromDay[i], fromDay[i] + span);
                    if (greatest < found) {
                        day = fromDay[i];
                        found = greatest;
                    }
                }
            }
            return day;
        }

        boolean isToldFrom(int day) {
            for (int i = 0; i < told; i++) {
                if (fromDay[i] == day) {
                    return true;
                }
            }
            return false;
        }

        void tell(int day, int v) {
            int place = 0;
            while (place < told && fromDay[place] < day) {
                place++;
            }
            if (place > MOST_RATES) {
                return;
            }
            if (place == told || fromDay[place] != day) {
                makePlace(place);
            }
            fromDay[place] = day;
            rateFrom[place] = v;
        }

        private void makePlace(int place) {
            if (told > MOST_RATES) {
                return;
            }
            for (int i = told; i > place; i--) {
                fromDay[i] = fromDay[i - 1];
                rateFrom[i] = rateFrom[i - 1];
            }
            told++;
        }

        int allowanceOf(int quantity, int days) {
            return quantity * Math.min(allowsPerDay * days, cap) / WHOLE;
        }

        void copyFrom(Kind other) {
            System.arraycopy(other.fromDay, 0, fromDay, 0, MOST_RATES + 1);
            System.arraycopy(other.rateFrom, 0, rateFrom, 0, MOST_RATES + 1);
            told = other.told;
            allowsPerDay = other.allowsPerDay;
            cap = other.cap;
        }
    }

    private static final class Load {
        int state;
        int from;
        int to;
        int kind;
        int quantity;
        int days;
        int rank;
        int begun;
        int came;
        int duty;
        int shortage;
        int allowed;
        int splitOf;
        long heldInAll;
        long releasedInAll;
        final int[] heldOf = new int[MOST_GUARANTORS];

        /** Sets every field: the place may hold what an act that was undone left there. */
        void ask(int storeFrom, int storeTo, int ofKind, int much) {
            state = WAITS;
            from = storeFrom;
            to = storeTo;
            kind = ofKind;
            quantity = much;
            days = 0;
            rank = 0;
            begun = NONE;
            came = 0;
            duty = 0;
            shortage = 0;
            allowed = 0;
            splitOf = NONE;
            heldInAll = 0;
            releasedInAll = 0;
            for (int g = 0; g < MOST_GUARANTORS; g++) {
                heldOf[g] = 0;
            }
        }

        int rest() {
            return quantity - came;
        }

        int latest() {
            return begun + days;
        }

        int heldNow() {
            int sum = 0;
            for (int g = 0; g < MOST_GUARANTORS; g++) {
                sum += heldOf[g];
            }
            return sum;
        }

        boolean canTurnTo(int store) {
            return state == GOES && store != from && store != to;
        }

        void copyFrom(Load other) {
            state = other.state;
            from = other.from;
            to = other.to;
            kind = other.kind;
            quantity = other.quantity;
            days = other.days;
            rank = other.rank;
            begun = other.begun;
            came = other.came;
            duty = other.duty;
            shortage = other.shortage;
            allowed = other.allowed;
            splitOf = other.splitOf;
            heldInAll = other.heldInAll;
            releasedInAll = other.releasedInAll;
            System.arraycopy(other.heldOf, 0, heldOf, 0, MOST_GUARANTORS);
        }
    }

    /** All that can be undone, kept as an image or tried on paper. */
    private static final class Book {
        int day;
        int grace = 30;
        int strict = 1;
        int guarantorCount;
        int storeCount;
        int loadCount;
        final Guarantor[] guarantors = new Guarantor[MOST_GUARANTORS];
        final Store[] stores = new Store[MOST_STORES];
        final Kind[] kinds = new Kind[KINDS];
        final Load[] loads = new Load[MOST_LOADS];
        /** LOADS lined up, each as what it is lined up by times MOST_LOADS, and its number. */
        private final int[] row = new int[MOST_LOADS];
        private int rowSize;

        Book() {
            for (int i = 0; i < MOST_GUARANTORS; i++) {
                guarantors[i] = new Guarantor();
            }
            for (int i = 0; i < MOST_STORES; i++) {
                stores[i] = new Store();
            }
            for (int i = 0; i < KINDS; i++) {
                kinds[i] = new Kind();
            }
            for (int i = 0; i < MOST_LOADS; i++) {
                loads[i] = new Load();
            }
        }

        void copyFrom(Book other) {
            day = other.day;
            grace = other.grace;
            strict = other.strict;
            guarantorCount = other.guarantorCount;
            storeCount = other.storeCount;
            loadCount = other.loadCount;
            for (int i = 0; i < guarantorCount; i++) {
                guarantors[i].copyFrom(other.guarantors[i]);
            }
            for (int i = 0; i < storeCount; i++) {
                stores[i].copyFrom(other.stores[i]);
            }
            for (int i = 0; i < KINDS; i++) {
                kinds[i].copyFrom(other.kinds[i]);
            }
            for (int i = 0; i < loadCount; i++) {
                loads[i].copyFrom(other.loads[i]);
            }
        }

        boolean hasGuarantor(int guarantor) {
            return guarantor >= 0 && guarantor < guarantorCount;
        }

        boolean hasStore(int store) {
            return store >= 0 && store < storeCount;
        }

        boolean hasLoad(int load) {
            return load >= 0 && load < loadCount;
        }

        boolean isOrder(int a, int b, int c) {
            return canStand(a) && canStand(b) && canStand(c)
                    && !isTwice(a, b) && !isTwice(a, c) && !isTwice(b, c);
        }

        private boolean canStand(int guarantor) {
            return guarantor == NONE || hasGuarantor(guarantor);
        }

        private static boolean isTwice(int a, int b) {
            return a == b && a != NONE;
        }

        int addGuarantor(int firstLimit) {
            int number = guarantorCount;
            guarantors[number].begin(firstLimit);
            guarantorCount++;
            return number;
        }

        int addStore(int a, int b, int c) {
            int number = storeCount;
            stores[number].begin(a, b, c);
            storeCount++;
            return number;
        }

        int countInState(int state) {
            int many = 0;
            for (int i = 0; i < loadCount; i++) {
                if (loads[i].state == state) {
                    many++;
                }
            }
            return many;
        }

        int heldOfAll() {
            int sum = 0;
            for (int i = 0; i < guarantorCount; i++) {
                sum += guarantors[i].held;
            }
            return sum;
        }

        int dueOfAll() {
            int sum = 0;
            for (int i = 0; i < guarantorCount; i++) {
                sum += guarantors[i].due;
            }
            return sum;
        }

        int stockOfAll() {
            int sum = 0;
            for (int i = 0; i < storeCount; i++) {
                for (int kind = 0; kind < KINDS; kind++) {
                    sum += stores[i].stockOf[kind];
                }
            }
            return sum;
        }

        int freeFor(Store s) {
            int sum = 0;
            for (int i = 0; i < s.ordered; i++) {
                sum += guarantors[s.line[i]].free();
            }
            return sum;
        }

        int needOf(Load l) {
            if (l.state == WAITS) {
                return l.rest() * kinds[l.kind].greatestRate(day, day + l.days);
            }
            if (l.state == GOES) {
                return l.rest() * kinds[l.kind].greatestRate(l.begun, l.latest());
            }
            return 0;
        }

        boolean isLate(Load l) {
            return l.latest() < day;
        }

        boolean isOverdue(Load l) {
            return l.latest() + grace < day;
        }

        int lastDayOut(Load l) {
            return Math.min(day, l.latest());
        }

        boolean canBeLostOn(Load l, int lossDay) {
            return lossDay >= l.begun && lossDay <= lastDayOut(l);
        }

        private void hold(Load l, int amount) {
            Store s = stores[l.from];
            int left = amount;
            for (int i = 0; i < s.ordered; i++) {
                Guarantor g = guarantors[s.line[i]];
                int part = Math.min(left, g.free());
                g.held += part;
                l.heldOf[s.line[i]] += part;
                left -= part;
            }
            l.heldInAll += amount - left;
        }

        private void release(Load l, int amount) {
            Store s = stores[l.from];
            int left = amount;
            for (int i = MOST_GUARANTORS - 1; i >= 0; i--) {
                int part = Math.min(left, l.heldOf[s.line[i]]);
                guarantors[s.line[i]].held -= part;
                l.heldOf[s.line[i]] -= part;
                left -= part;
            }
            l.releasedInAll += amount - left;
        }

        private void makeDue(Load l, int amount) {
            Store s = stores[l.from];
            int left = amount;
            for (int i = 0; i < MOST_GUARANTORS; i++) {
                Guarantor g = guarantors[s.line[i]];
                int part = Math.min(left, l.heldOf[s.line[i]]);
                g.held -= part;
                l.heldOf[s.line[i]] -= part;
                g.addDue(part);
                left -= part;
            }
        }

        void makeDueAtOnce(Store s, int amount) {
            int left = amount;
            for (int i = 0; i < s.ordered; i++) {
                Guarantor g = guarantors[s.line[i]];
                int part = Math.min(left, g.free());
                g.addDue(part);
                left -= part;
            }
        }

        /** What is HELD becomes NEED anew; false, and nothing changed, if it can't be HELD. */
        boolean holdAnew(Load l) {
            int more = needOf(l) - l.heldNow();
            if (more > freeFor(stores[l.from])) {
                return false;
            }
            if (more > 0) {
                hold(l, more);
            } else {
                release(l, -more);
            }
            return true;
        }

        boolean lacksToExtend(Load l, int more) {
            int need = l.rest() * kinds[l.kind].greatestRate(l.begun, l.latest() + more);
            return need - l.heldNow() > freeFor(stores[l.from]);
        }

        /** False, with changes left half done, if it can't be HELD: to be tried on paper first. */
        boolean tellRate(int kind, int from, int v) {
            kinds[kind].tell(from, v);
            for (int i = 0; i < loadCount; i++) {
                if (loads[i].state == GOES && !holdAnew(loads[i])) {
                    return false;
                }
            }
            return true;
        }

        void takeTurns() {
            int waiting = lineUpWaiting();
            for (int i = 0; i < waiting; i++) {
                Load l = loads[inRow(i)];
                int need = needOf(l);
                if (need <= freeFor(stores[l.from])) {
                    l.state = GOES;
                    l.begun = day;
                    hold(l, need);
                } else if (strict == 1) {
                    return;
                }
            }
        }

        int passDays(int n) {
            int lost = 0;
            for (int i = 0; i < n; i++) {
                lost += passDay();
            }
            return lost;
        }

        private int passDay() {
            int lost = 0;
            day++;
            for (int i = 0; i < loadCount; i++) {
                Load l = loads[i];
                if (l.state == GOES && isOverdue(l)) {
                    close(l, LOST, l.latest());
                    lost++;
                }
            }
            takeTurns();
            return lost;
        }

        void receive(Load l, int quantity) {
            stores[l.to].stockOf[l.kind] += quantity;
            l.came += quantity;
            release(l, l.heldNow() - needOf(l));
        }

        /** All of REST is SHORT; what is HELD becomes DUE or FREE. */
        void close(Load l, int state, int lossDay) {
            l.shortage = l.rest();
            l.allowed = allowedOf(l, l.shortage);
            l.duty = dutyOn(l, l.shortage - l.allowed, lossDay);
            makeDue(l, l.duty);
            release(l, l.heldNow());
            l.state = state;
        }

        int allowedOf(Load l, int shortage) {
            int days = lastDayOut(l) - l.begun;
            return Math.min(shortage, kinds[l.kind].allowanceOf(l.quantity, days));
        }

        int dutyOn(Load l, int dutiable, int lossDay) {
            return dutiable * kinds[l.kind].rateAt(lossDay);
        }

        int restsTo(int store, int kind) {
            int sum = 0;
            for (int i = 0; i < loadCount; i++) {
                if (goesTo(loads[i], store, kind)) {
                    sum += loads[i].rest();
                }
            }
            return sum;
        }

        int receiveUnnumbered(int store, int kind, int quantity) {
            int going = lineUpGoingTo(store, kind);
            int left = quantity;
            int many = 0;
            for (int i = 0; i < going && left > 0; i++) {
                Load l = loads[inRow(i)];
                int part = Math.min(left, l.rest());
                receive(l, part);
                if (l.rest() == 0) {
                    close(l, ENDED, l.begun);
                }
                left -= part;
                many++;
            }
            return many;
        }

        int splitOff(int load, int quantity, int to) {
            int number = loadCount;
            Load first = loads[load];
            Load second = loads[number];
            second.ask(first.from, to, first.kind, quantity);
            second.state = GOES;
            second.days = first.days;
            second.rank = first.rank;
            second.begun = first.begun;
            second.splitOf = load;
            loadCount++;
            handOver(first, second, needOf(second));
            first.quantity -= quantity;
            return number;
        }

        private void handOver(Load first, Load second, int amount) {
            Store s = stores[first.from];
            int left = amount;
            for (int i = MOST_GUARANTORS - 1; i >= 0; i--) {
                int g = s.line[i];
                int part = Math.min(left, first.heldOf[g]);
                first.heldOf[g] -= part;
                second.heldOf[g] += part;
                left -= part;
            }
            first.releasedInAll += amount - left;
            second.heldInAll += amount - left;
        }

        private boolean goesTo(Load l, int store, int kind) {
            return l.state == GOES && l.to == store && l.kind == kind;
        }

        /** The number of the i-th LOAD of the latest line; 0 where there is none. */
        int inRow(int i) {
            return i >= 0 && i < rowSize ? row[i] % MOST_LOADS : 0;
        }

        /** By RANKS, numbers; answers how many. */
        int lineUpWaiting() {
            rowSize = 0;
            for (int i = 0; i < loadCount; i++) {
                if (loads[i].state == WAITS) {
                    enterRow(loads[i].rank, i);
                }
            }
            return rowSize;
        }

        /** By LATEST, numbers; answers how many. */
        int lineUpGoing() {
            rowSize = 0;
            for (int i = 0; i < loadCount; i++) {
                if (loads[i].state == GOES) {
                    enterRow(loads[i].latest(), i);
                }
            }
            return rowSize;
        }

        /** By LATEST, numbers; answers how many. */
        int lineUpGoingTo(int store, int kind) {
            rowSize = 0;
            for (int i = 0; i < loadCount; i++) {
                if (goesTo(loads[i], store, kind)) {
                    enterRow(loads[i].latest(), i);
                }
            }
            return rowSize;
        }

        /** By numbers; answers how many. */
        int lineUpLate() {
            rowSize = 0;
            for (int i = 0; i < loadCount; i++) {
                if (loads[i].state == GOES && isLate(loads[i])) {
                    enterRow(0, i);
                }
            }
            return rowSize;
        }

        private void enterRow(int by, int load) {
            if (rowSize >= MOST_LOADS) {
                return;
            }
            int entry = by * MOST_LOADS + load;
            int place = rowSize;
            while (place > 0 && row[place - 1] > entry) {
                row[place] = row[place - 1];
                place--;
            }
            row[place] = entry;
            rowSize++;
        }
    }
}
