import java.util.Arrays;

/** Smoke permits of a town of kilns, as the document promises them. */
public final class KilnPermits {
    public static final int UNKNOWN = -1;
    public static final int BAD_VALUE = -2;
    public static final int FULL = -3;
    public static final int NOT_POSSIBLE = -4;
    public static final int NONE = -5;

    private static final int NO_ERROR = 0;
    private static final int NO_FAULT = -1;
    private static final int FAULT_OF_TEXT = -100;

    private static final int KILNS = 6;
    private static final int FIRST_COINS = 1000;
    private static final int FIRST_RESERVE = 500;
    private static final int MOST_PERMITS = 999;
    private static final int MOST_SMOKE = 999;
    private static final int MOST_PRICE = 500;
    private static final int LAST_YEAR = 999;
    private static final int FIRST_ROOM_OF_YEARS = 8;

    private static final int MOST_STANDING = 16;
    // One more than may stand: the order that comes needs a place while it is met.
    private static final int PLACES = MOST_STANDING + 1;

    private static final int MOST_STATES = 4;
    private static final int MOST_SIGNS = 60;
    // The shortest order has 7 characters with its ";". Behind as many as there is room for
    // one more may begin, which is read for the place of its fault alone.
    private static final int MOST_LINES = MOST_SIGNS / 7 + 1;

    private static final int FLOOR = 0;
    private static final int CEILING = 1;
    private static final int MOST_BORROWED = 2;
    private static final int INTEREST = 3;
    private static final int FINE = 4;
    private static final int[] SETTING_LEAST = {1, 100, 0, 0, 1};
    private static final int[] SETTING_MOST = {99, 500, 100, 100, 5};
    private static final int[] SETTING_FIRST = {10, 100, 20, 10, 3};

    private Town now;
    // The states change places and are never made anew, so that a run stays small.
    private Town spare;
    private final Town snapshot;
    private boolean isKept;
    private final Town[] history;
    private int states;
    private final OrderText text;

    public KilnPermits() {
        now = new Town();
        spare = new Town();
        snapshot = new Town();
        history = new Town[MOST_STATES];
        for (int i = 0; i < history.length; i++) {
            history[i] = new Town();
        }
        text = new OrderText();
    }

    // ---- permits, firing

    public int issue(int kiln, int permits) {
        Kiln taker = now.kilnAt(kiln);
        if (taker == null) {
            return UNKNOWN;
        }
        if (!isWithin(permits, 1, MOST_PERMITS)) {
            return BAD_VALUE;
        }
        record();
        return now.issueTo(taker, permits);
    }

    public int fire(int kiln, int smoke, int told) {
        Kiln fired = now.kilnAt(kiln);
        if (fired == null) {
            return UNKNOWN;
        }
        if (!isWithin(smoke, 1, MOST_SMOKE) || !isWithin(told, 0, smoke)) {
            return BAD_VALUE;
        }
        record();
        fired.smoke += smoke;
        fired.told += told;
        return fired.told;
    }

    public int audit(int kiln) {
        Kiln audited = now.kilnAt(kiln);
        if (audited == null) {
            return UNKNOWN;
        }
        int found = audited.smoke - audited.told;
        if (found == 0) {
            return NONE;
        }
        record();
        audited.told += found;
        audited.fines += found * now.settings[FINE];
        return found;
    }

    // ---- the market

    public int bid(int kiln, int permits, int price) {
        return oneComes(true, kiln, permits, price);
    }

    public int ask(int kiln, int permits, int price) {
        return oneComes(false, kiln, permits, price);
    }

    public int orderAll() {
        int fault = text.read();
        if (fault != NO_FAULT) {
            return FAULT_OF_TEXT - fault;
        }
        spare.copyFrom(now);
        int traded = 0;
        for (int i = 0; i < text.lineCount && i < text.lines.length; i++) {
            Line line = text.lines[i];
            int error = now.errorOf(line.isBid, line.kiln, line.permits, line.price);
            if (error != NO_ERROR) {
                swapWithSpare();
                return error;
            }
            traded += now.comes(line.isBid, line.kiln, line.permits, line.price);
        }
        pushSpare();
        return traded;
    }

    public int takeBack(int order) {
        Order standing = now.standingWith(order);
        if (standing == null) {
            return UNKNOWN;
        }
        record();
        int left = standing.left;
        now.giveBack(standing);
        return left;
    }

    public int buyReserve(int kiln, int permits) {
        Kiln buyer = now.kilnAt(kiln);
        if (buyer == null) {
            return UNKNOWN;
        }
        if (!isWithin(permits, 1, MOST_PERMITS)) {
            return BAD_VALUE;
        }
        if (now.reserve < permits || buyer.coins < permits * now.settings[CEILING]) {
            return FULL;
        }
        record();
        now.sellReserve(buyer, permits);
        return now.reserve;
    }

    public int borrow(int kiln, int permits) {
        Kiln borrower = now.kilnAt(kiln);
        if (borrower == null) {
            return UNKNOWN;
        }
        if (!isWithin(permits, 1, MOST_PERMITS)) {
            return BAD_VALUE;
        }
        if (borrower.borrowed + permits > borrower.told * now.settings[MOST_BORROWED] / 100) {
            return FULL;
        }
        record();
        borrower.borrowed += permits;
        return borrower.borrowed;
    }

    public int set(int which, int value) {
        if (!isSetting(which, value)) {
            return BAD_VALUE;
        }
        int previous = now.settings[which];
        if (previous == value) {
            return NONE;
        }
        record();
        now.settings[which] = value;
        return previous;
    }

    public int endYear() {
        if (now.year >= LAST_YEAR) {
            return FULL;
        }
        record();
        return now.closeYear();
    }

    // ---- texts

    public int type(char character) {
        return text.append(character) ? text.length : FULL;
    }

    public int clearText() {
        int before = text.length;
        text.length = 0;
        return before;
    }

    // ---- history

    public int undo() {
        if (states == 0) {
            return NONE;
        }
        Town latest = history[0];
        for (int i = 1; i < history.length; i++) {
            history[i - 1] = history[i];
        }
        history[history.length - 1] = now;
        now = latest;
        states--;
        return states;
    }

    public int keep() {
        snapshot.copyFrom(now);
        isKept = true;
        return now.year;
    }

    public int restore() {
        if (!isKept) {
            return NONE;
        }
        record();
        now.copyFrom(snapshot);
        return now.year;
    }

    // ---- what is told

    public int kiln(int kiln, int what) {
        Kiln subject = now.kilnAt(kiln);
        if (subject == null) {
            return UNKNOWN;
        }
        switch (what) {
            case 0: return subject.coins;
            case 1: return subject.permits.total;
            case 2: return subject.smoke;
            case 3: return subject.told;
            case 4: return subject.borrowed;
            case 5: return subject.fines;
            case 6: return subject.debt;
            case 7: return subject.owed;
            case 8: return subject.lack();
            case 9: return subject.permits.oldestYear();
            case 10: return now.offeredBy(kiln);
            case 11: return now.heldBackBy(kiln);
            default: return BAD_VALUE;
        }
    }

    public int ofYear(int kiln, int year) {
        Kiln subject = now.kilnAt(kiln);
        if (subject == null) {
            return UNKNOWN;
        }
        if (!isWithin(year, 0, now.year)) {
            return BAD_VALUE;
        }
        return subject.permits.issuedFor(year);
    }

    public int order(boolean bids, int rank, int what) {
        if (rank < 0 || !isWithin(what, 0, 3)) {
            return BAD_VALUE;
        }
        Order standing = now.ranked(bids, rank);
        if (standing == null) {
            return NONE;
        }
        switch (what) {
            case 0: return standing.number;
            case 1: return standing.kiln;
            case 2: return standing.left;
            default: return standing.price;
        }
    }

    public int depth(boolean buy, int price) {
        if (!isWithin(price, 1, MOST_PRICE)) {
            return BAD_VALUE;
        }
        int permits = 0;
        for (Order standing : now.places) {
            if (standing.isBid != buy && standing.isMetAt(price)) {
                permits += standing.left;
            }
        }
        return permits;
    }

    public int count(int what) {
        switch (what) {
            case 0: return now.year;
            case 1: return now.allPermits();
            case 2: return now.issued;
            case 3: return now.given;
            case 4: return now.borrowedGiven;
            case 5: return now.reserve;
            case 6: return now.reserveSold;
            case 7: return now.standingCount();
            case 8: return now.orderCount;
            case 9: return now.traded;
            case 10: return now.traded == 0 ? NONE : now.latestPrice;
            case 11: return now.allCoins();
            case 12: return now.coinsTaken;
            case 13: return now.coinsForReserve;
            case 14: return now.settings[FLOOR];
            case 15: return now.settings[CEILING];
            case 16: return now.settings[MOST_BORROWED];
            case 17: return now.settings[INTEREST];
            case 18: return now.settings[FINE];
            case 19: return states;
            case 20: return text.length;
            default: return BAD_VALUE;
        }
    }

    // ---- helpers

    private static boolean isWithin(int value, int least, int most) {
        return value >= least && value <= most;
    }

    private static boolean isSetting(int which, int value) {
        return isWithin(which, 0, SETTING_FIRST.length - 1)
            && isWithin(value, SETTING_LEAST[which], SETTING_MOST[which]);
    }

    private int oneComes(boolean isBid, int kiln, int permits, int price) {
        int error = now.errorOf(isBid, kiln, permits, price);
        if (error != NO_ERROR) {
            return error;
        }
        record();
        return now.comes(isBid, kiln, permits, price);
    }

    private void record() {
        spare.copyFrom(now);
        pushSpare();
    }

    /** The latest state stands first, so the last one is either unused or the oldest. */
    private void pushSpare() {
        Town dropped = history[history.length - 1];
        for (int i = history.length - 1; i > 0; i--) {
            history[i] = history[i - 1];
        }
        history[0] = spare;
        spare = dropped;
        states = Math.min(states + 1, history.length);
    }

    private void swapWithSpare() {
        Town changed = now;
        now = spare;
        spare = changed;
    }

    /** All that undo() and restore() bring back. */
    private static final class Town {
        int year;
        int issued;
        int given;
        int borrowedGiven;
        int reserve = FIRST_RESERVE;
        int reserveSold;
        int orderCount;
        int traded;
        int latestPrice;
        int coinsTaken;
        int coinsForReserve;
        final int[] settings = SETTING_FIRST.clone();
        final Kiln[] kilns = new Kiln[KILNS];
        final Order[] places = new Order[PLACES];

        Town() {
            for (int i = 0; i < kilns.length; i++) {
                kilns[i] = new Kiln();
            }
            for (int i = 0; i < places.length; i++) {
                places[i] = new Order();
            }
        }

        void copyFrom(Town other) {
            year = other.year;
            issued = other.issued;
            given = other.given;
            borrowedGiven = other.borrowedGiven;
            reserve = other.reserve;
            reserveSold = other.reserveSold;
            orderCount = other.orderCount;
            traded = other.traded;
            latestPrice = other.latestPrice;
            coinsTaken = other.coinsTaken;
            coinsForReserve = other.coinsForReserve;
            for (int i = 0; i < settings.length && i < other.settings.length; i++) {
                settings[i] = other.settings[i];
            }
            for (int i = 0; i < kilns.length && i < other.kilns.length; i++) {
                kilns[i].copyFrom(other.kilns[i]);
            }
            for (int i = 0; i < places.length && i < other.places.length; i++) {
                places[i].copyFrom(other.places[i]);
            }
        }

        Kiln kilnAt(int number) {
            return number >= 0 && number < kilns.length ? kilns[number] : null;
        }

        int issueTo(Kiln taker, int permits) {
            int takenOff = Math.min(taker.owed, permits);
            int left = permits - takenOff;
            taker.owed -= takenOff;
            taker.permits.add(year, left);
            issued += left;
            return left;
        }

        void sellReserve(Kiln buyer, int permits) {
            int cost = permits * settings[CEILING];
            buyer.coins -= cost;
            buyer.permits.add(year, permits);
            coinsForReserve += cost;
            reserve -= permits;
            reserveSold += permits;
        }

        int closeYear() {
            int lack = 0;
            for (Kiln kiln : kilns) {
                lack += settle(kiln);
            }
            year++;
            return lack;
        }

        int settle(Kiln kiln) {
            int due = kiln.due();
            int ofBorrowed = Math.min(kiln.borrowed, due);
            int ofOwn = Math.min(kiln.permits.total, due - ofBorrowed);
            int lack = due - ofBorrowed - ofOwn;
            int coins = (int) Math.min((long) kiln.coins, (long) lack * settings[CEILING]);
            kiln.permits.dropOldest(ofOwn);
            kiln.coins -= coins;
            kiln.owed += withInterest(kiln.borrowed);
            kiln.startYear(lack);
            borrowedGiven += ofBorrowed;
            given += ofOwn;
            coinsTaken += coins;
            return lack;
        }

        int withInterest(int borrowed) {
            return (borrowed * (100 + settings[INTEREST]) + 99) / 100;
        }

        int errorOf(boolean isBid, int kiln, int permits, int price) {
            Kiln owner = kilnAt(kiln);
            if (owner == null) {
                return UNKNOWN;
            }
            if (!isWithin(permits, 1, MOST_PERMITS)
                || !isWithin(price, settings[FLOOR], settings[CEILING])) {
                return BAD_VALUE;
            }
            boolean hasEnough = isBid
                ? owner.coins >= permits * price
                : owner.permits.total >= permits;
            return hasEnough ? NO_ERROR : FULL;
        }

        /** Expects an order without an error; answers how many permits it trades at once. */
        int comes(boolean isBid, int kiln, int permits, int price) {
            Order order = freePlace();
            Kiln owner = kilnAt(kiln);
            if (order == null || owner == null) {
                return 0;
            }
            order.start(orderCount, isBid, kiln, permits, price);
            orderCount++;
            if (isBid) {
                owner.coins -= permits * price;
            } else {
                owner.permits.giveOldest(permits, order.offered);
            }
            meetOthers(order);
            int tradedNow = permits - order.left;
            if (order.left > 0 && standingCount() > MOST_STANDING) {
                giveBack(order);
            }
            return tradedNow;
        }

        void meetOthers(Order order) {
            for (int met = 0; met < places.length && order.left > 0; met++) {
                Order other = bestOf(!order.isBid);
                if (other == null || !other.isMetAt(order.price)) {
                    return;
                }
                if (order.isBid) {
                    trade(order, other, other.price);
                } else {
                    trade(other, order, other.price);
                }
            }
        }

        void trade(Order bid, Order ask, int price) {
            Kiln buyer = kilnAt(bid.kiln);
            Kiln seller = kilnAt(ask.kiln);
            if (buyer == null || seller == null) {
                return;
            }
            int permits = Math.min(bid.left, ask.left);
            bid.left -= permits;
            ask.left -= permits;
            ask.offered.giveOldest(permits, buyer.permits);
            seller.coins += permits * price;
            buyer.coins += permits * (bid.price - price);
            traded += permits;
            latestPrice = price;
        }

        void giveBack(Order order) {
            Kiln owner = kilnAt(order.kiln);
            if (owner == null) {
                return;
            }
            owner.coins += order.heldBack();
            order.offered.giveOldest(order.offered.total, owner.permits);
            order.left = 0;
        }

        Order freePlace() {
            for (Order order : places) {
                if (order.left == 0) {
                    return order;
                }
            }
            return null;
        }

        Order standingWith(int number) {
            for (Order order : places) {
                if (order.left > 0 && order.number == number) {
                    return order;
                }
            }
            return null;
        }

        Order bestOf(boolean bids) {
            Order best = null;
            for (Order order : places) {
                if (order.standsAs(bids) && (best == null || order.isBetterThan(best))) {
                    best = order;
                }
            }
            return best;
        }

        Order ranked(boolean bids, int rank) {
            for (Order order : places) {
                if (order.standsAs(bids) && betterThan(order) == rank) {
                    return order;
                }
            }
            return null;
        }

        int betterThan(Order order) {
            int better = 0;
            for (Order other : places) {
                if (other.standsAs(order.isBid) && other.isBetterThan(order)) {
                    better++;
                }
            }
            return better;
        }

        int standingCount() {
            int standing = 0;
            for (Order order : places) {
                if (order.left > 0) {
                    standing++;
                }
            }
            return standing;
        }

        int offeredBy(int kiln) {
            int permits = 0;
            for (Order order : places) {
                if (order.kiln == kiln) {
                    permits += order.offered.total;
                }
            }
            return permits;
        }

        int heldBackBy(int kiln) {
            int coins = 0;
            for (Order order : places) {
                if (order.kiln == kiln) {
                    coins += order.heldBack();
                }
            }
            return coins;
        }

        int allPermits() {
            int permits = 0;
            for (int i = 0; i < kilns.length; i++) {
                permits += kilns[i].permits.total + offeredBy(i);
            }
            return permits;
        }

        int allCoins() {
            int coins = 0;
            for (int i = 0; i < kilns.length; i++) {
                coins += kilns[i].coins + heldBackBy(i);
            }
            return coins;
        }
    }

    private static final class Kiln {
        int coins = FIRST_COINS;
        int smoke;
        int told;
        int borrowed;
        int fines;
        int debt;
        int owed;
        final Permits permits = new Permits();

        void copyFrom(Kiln other) {
            coins = other.coins;
            smoke = other.smoke;
            told = other.told;
            borrowed = other.borrowed;
            fines = other.fines;
            debt = other.debt;
            owed = other.owed;
            permits.copyFrom(other.permits);
        }

        int due() {
            return told + fines + debt;
        }

        int lack() {
            return Math.max(0, due() - borrowed - permits.total);
        }

        void startYear(int newDebt) {
            debt = newDebt;
            smoke = 0;
            told = 0;
            borrowed = 0;
            fines = 0;
        }
    }

    /** A place in the market; an order stands in it as long as permits are left. */
    private static final class Order {
        int number;
        boolean isBid;
        int kiln;
        int left;
        int price;
        final Permits offered = new Permits();

        void start(int newNumber, boolean bids, int owner, int permits, int newPrice) {
            number = newNumber;
            isBid = bids;
            kiln = owner;
            left = permits;
            price = newPrice;
        }

        void copyFrom(Order other) {
            start(other.number, other.isBid, other.kiln, other.left, other.price);
            offered.copyFrom(other.offered);
        }

        boolean standsAs(boolean bids) {
            return left > 0 && isBid == bids;
        }

        boolean isMetAt(int otherPrice) {
            return isBid ? price >= otherPrice : price <= otherPrice;
        }

        boolean isBetterThan(Order other) {
            if (price == other.price) {
                return number < other.number;
            }
            return isBid ? price > other.price : price < other.price;
        }

        int heldBack() {
            return isBid ? left * price : 0;
        }
    }

    /** Permits by the year for which they were issued. */
    private static final class Permits {
        int[] byYear = new int[FIRST_ROOM_OF_YEARS];
        // At most the length of the row, which may hold from here on what an earlier use left.
        int years;
        int total;

        void copyFrom(Permits other) {
            if (byYear.length < other.years) {
                byYear = new int[other.byYear.length];
            }
            System.arraycopy(other.byYear, 0, byYear, 0, other.years);
            years = other.years;
            total = other.total;
        }

        int issuedFor(int year) {
            return year >= 0 && year < years ? byYear[year] : 0;
        }

        int oldestYear() {
            for (int year = 0; year < years; year++) {
                if (byYear[year] > 0) {
                    return year;
                }
            }
            return NONE;
        }

        void add(int year, int permits) {
            if (permits <= 0 || year < 0 || year > LAST_YEAR) {
                return;
            }
            if (year >= byYear.length) {
                byYear = Arrays.copyOf(byYear, Math.max(year + 1, 2 * byYear.length));
            }
            for (; years <= year; years++) {
                byYear[years] = 0;
            }
            byYear[year] += permits;
            total += permits;
        }

        void giveOldest(int permits, Permits taker) {
            int left = permits;
            for (int year = 0; year < years && left > 0; year++) {
                int part = Math.min(left, byYear[year]);
                byYear[year] -= part;
                taker.add(year, part);
                left -= part;
            }
            leaveOut(permits - left);
        }

        void dropOldest(int permits) {
            int left = permits;
            for (int year = 0; year < years && left > 0; year++) {
                int part = Math.min(left, byYear[year]);
                byYear[year] -= part;
                left -= part;
            }
            leaveOut(permits - left);
        }

        /** An emptied row starts short again, so that states are copied fast. */
        void leaveOut(int permits) {
            total -= permits;
            if (total == 0) {
                years = 0;
            }
        }
    }

    /** One order as the text tells it. */
    private static final class Line {
        boolean isBid;
        int kiln;
        int permits;
        int price;
    }

    private static final class OrderText {
        final char[] signs = new char[MOST_SIGNS];
        int length;
        final Line[] lines = new Line[MOST_LINES];
        int lineCount;
        int place;

        OrderText() {
            for (int i = 0; i < lines.length; i++) {
                lines[i] = new Line();
            }
        }

        boolean append(char sign) {
            if (length < 0 || length >= signs.length) {
                return false;
            }
            signs[length] = sign;
            length++;
            return true;
        }

        /** Reads the lines; answers the fault, or NO_FAULT. */
        int read() {
            place = 0;
            lineCount = 0;
            for (int i = 0; i < lines.length; i++) {
                if (!readLine(lines[i])) {
                    return place;
                }
                lineCount++;
                if (place == length) {
                    return NO_FAULT;
                }
                if (!skip(';')) {
                    return place;
                }
            }
            return place;
        }

        boolean readLine(Line line) {
            line.isBid = isNext('b');
            if (!skip('b') && !skip('a')) {
                return false;
            }
            line.kiln = digit();
            if (!isWithin(line.kiln, 0, KILNS - 1)) {
                return false;
            }
            place++;
            if (!skip(':')) {
                return false;
            }
            line.permits = readNumber(MOST_PERMITS);
            if (line.permits == 0 || !skip('@')) {
                return false;
            }
            line.price = readNumber(MOST_PRICE);
            return line.price != 0;
        }

        boolean isNext(char sign) {
            return place >= 0 && place < length && place < signs.length && signs[place] == sign;
        }

        boolean skip(char sign) {
            if (!isNext(sign)) {
                return false;
            }
            place++;
            return true;
        }

        /** Answers the digit at the place, -1 if there is none. */
        int digit() {
            if (place < 0 || place >= length || place >= signs.length) {
                return -1;
            }
            char sign = signs[place];
            return sign >= '0' && sign <= '9' ? sign - '0' : -1;
        }

        /** Stops ahead of what is not allowed; answers 0 if nothing is. */
        int readNumber(int most) {
            int number = 0;
            for (int i = 0; i < MOST_SIGNS; i++) {
                int digit = digit();
                boolean isZeroInFront = number == 0 && digit == 0;
                if (digit < 0 || isZeroInFront || number * 10 + digit > most) {
                    return number;
                }
                number = number * 10 + digit;
                place++;
            }
            return number;
        }
    }
}
