import java.util.ArrayDeque;
import java.util.ArrayList;
import java.util.Comparator;
import java.util.Deque;
import java.util.List;
import java.util.function.ToIntFunction;
import java.util.regex.Pattern;
import java.util.stream.Stream;

/**
 * The document told once more, slowly: each permit is a number of its own (its year), a state is
 * copied whole before each act and put back if the act answers an error.
 */
final class TownModel {
    static final int UNKNOWN = -1;
    static final int BAD_VALUE = -2;
    static final int FULL = -3;
    static final int NONE = -5;

    private static final Pattern ORDERS = Pattern.compile(
        "[ab][0-5]:[1-9][0-9]{0,2}@([1-9][0-9]?|[1-4][0-9][0-9]|500)"
        + "(;[ab][0-5]:[1-9][0-9]{0,2}@([1-9][0-9]?|[1-4][0-9][0-9]|500))*");
    private static final String COMPLETE = "a0:1@1";

    private static final class Standing {
        boolean isBid;
        int number;
        int kiln;
        int wanted;
        int price;
        List<Integer> offered = new ArrayList<>();

        Standing copy() {
            Standing copy = new Standing();
            copy.isBid = isBid;
            copy.number = number;
            copy.kiln = kiln;
            copy.wanted = wanted;
            copy.price = price;
            copy.offered = new ArrayList<>(offered);
            return copy;
        }

        int left() {
            return isBid ? wanted : offered.size();
        }
    }

    private static final class State {
        int year;
        int[] coins = {1000, 1000, 1000, 1000, 1000, 1000};
        int[] smoke = new int[6];
        int[] told = new int[6];
        int[] borrowed = new int[6];
        int[] fines = new int[6];
        int[] debt = new int[6];
        int[] owed = new int[6];
        int[] settings = {10, 100, 20, 10, 3};
        int issued;
        int given;
        int borrowedGiven;
        int reserve = 500;
        int orders;
        int traded;
        int latestPrice = NONE;
        int taken;
        int paid;
        List<List<Integer>> permits = new ArrayList<>();
        List<Standing> market = new ArrayList<>();

        State() {
            for (int i = 0; i < 6; i++) {
                permits.add(new ArrayList<>());
            }
        }

        State copy() {
            State copy = new State();
            copy.year = year;
            copy.coins = coins.clone();
            copy.smoke = smoke.clone();
            copy.told = told.clone();
            copy.borrowed = borrowed.clone();
            copy.fines = fines.clone();
            copy.debt = debt.clone();
            copy.owed = owed.clone();
            copy.settings = settings.clone();
            copy.issued = issued;
            copy.given = given;
            copy.borrowedGiven = borrowedGiven;
            copy.reserve = reserve;
            copy.orders = orders;
            copy.traded = traded;
            copy.latestPrice = latestPrice;
            copy.taken = taken;
            copy.paid = paid;
            for (int i = 0; i < 6; i++) {
                copy.permits.get(i).addAll(permits.get(i));
            }
            market.forEach(standing -> copy.market.add(standing.copy()));
            return copy;
        }
    }

    private State s = new State();
    private State snapshot;
    private final Deque<State> history = new ArrayDeque<>();
    private String text = "";

    private int act(ToIntFunction<State> body) {
        State before = s.copy();
        int answer = body.applyAsInt(s);
        if (answer < 0) {
            s = before;
        } else {
            remember(before);
        }
        return answer;
    }

    private void remember(State before) {
        history.addLast(before);
        if (history.size() > 4) {
            history.removeFirst();
        }
    }

    private static boolean noKiln(int kiln) {
        return kiln < 0 || kiln > 5;
    }

    private static boolean noAmount(int permits) {
        return permits < 1 || permits > 999;
    }

    int issue(int kiln, int permits) {
        return act(t -> {
            if (noKiln(kiln)) {
                return UNKNOWN;
            }
            if (noAmount(permits)) {
                return BAD_VALUE;
            }
            int left = 0;
            for (int i = 0; i < permits; i++) {
                if (t.owed[kiln] > 0) {
                    t.owed[kiln]--;
                } else {
                    t.permits.get(kiln).add(t.year);
                    left++;
                }
            }
            t.issued += left;
            return left;
        });
    }

    int fire(int kiln, int smoke, int told) {
        return act(t -> {
            if (noKiln(kiln)) {
                return UNKNOWN;
            }
            if (smoke < 1 || smoke > 999 || told < 0 || told > smoke) {
                return BAD_VALUE;
            }
            t.smoke[kiln] += smoke;
            t.told[kiln] += told;
            return t.told[kiln];
        });
    }

    int audit(int kiln) {
        return act(t -> {
            if (noKiln(kiln)) {
                return UNKNOWN;
            }
            int found = t.smoke[kiln] - t.told[kiln];
            t.told[kiln] = t.smoke[kiln];
            t.fines[kiln] += found * t.settings[4];
            return found == 0 ? NONE : found;
        });
    }

    private static int comes(State t, boolean isBid, int kiln, int permits, int price) {
        if (noKiln(kiln)) {
            return UNKNOWN;
        }
        if (noAmount(permits) || price < t.settings[0] || price > t.settings[1]) {
            return BAD_VALUE;
        }
        if (isBid ? t.coins[kiln] < permits * price : t.permits.get(kiln).size() < permits) {
            return FULL;
        }
        Standing order = new Standing();
        order.isBid = isBid;
        order.number = t.orders++;
        order.kiln = kiln;
        order.price = price;
        if (isBid) {
            order.wanted = permits;
            t.coins[kiln] -= permits * price;
        } else {
            for (int i = 0; i < permits; i++) {
                order.offered.add(takeOldest(t.permits.get(kiln)));
            }
        }
        int traded = 0;
        while (order.left() > 0) {
            List<Standing> others = side(t, !isBid);
            if (others.isEmpty()) {
                break;
            }
            Standing other = others.get(0);
            if (isBid ? other.price > price : other.price < price) {
                break;
            }
            tradeOne(t, isBid ? order : other, isBid ? other : order, other.price);
            t.market.removeIf(standing -> standing.left() == 0);
            traded++;
        }
        if (order.left() > 0) {
            if (t.market.size() < 16) {
                t.market.add(order);
            } else {
                backTo(t, order);
            }
        }
        return traded;
    }

    private static Integer takeOldest(List<Integer> permits) {
        permits.sort(Comparator.naturalOrder());
        return permits.remove(0);
    }

    private static void tradeOne(State t, Standing bid, Standing ask, int price) {
        t.permits.get(bid.kiln).add(takeOldest(ask.offered));
        bid.wanted--;
        t.coins[ask.kiln] += price;
        t.coins[bid.kiln] += bid.price - price;
        t.traded++;
        t.latestPrice = price;
    }

    private static void backTo(State t, Standing order) {
        if (order.isBid) {
            t.coins[order.kiln] += order.wanted * order.price;
        } else {
            t.permits.get(order.kiln).addAll(order.offered);
        }
    }

    private static List<Standing> side(State t, boolean bids) {
        Comparator<Standing> byPrice = Comparator.comparingInt(standing -> standing.price);
        return t.market.stream()
            .filter(standing -> standing.isBid == bids)
            .sorted((bids ? byPrice.reversed() : byPrice)
                .thenComparingInt(standing -> standing.number))
            .toList();
    }

    int bid(int kiln, int permits, int price) {
        return act(t -> comes(t, true, kiln, permits, price));
    }

    int ask(int kiln, int permits, int price) {
        return act(t -> comes(t, false, kiln, permits, price));
    }

    static boolean mayBegin(String text) {
        for (int from = 0; from <= COMPLETE.length(); from++) {
            if (ORDERS.matcher(text + COMPLETE.substring(from)).matches()) {
                return true;
            }
        }
        return false;
    }

    /** The fault of a text, -1 if it has none. */
    static int fault(String text) {
        if (ORDERS.matcher(text).matches()) {
            return -1;
        }
        int length = 0;
        while (length < text.length() && mayBegin(text.substring(0, length + 1))) {
            length++;
        }
        return length;
    }

    int orderAll() {
        int fault = fault(text);
        if (fault >= 0) {
            return -100 - fault;
        }
        return act(t -> {
            int traded = 0;
            for (String order : text.split(";")) {
                String[] numbers = order.substring(1).split("[:@]");
                int answer = comes(t, order.charAt(0) == 'b', Integer.parseInt(numbers[0]),
                    Integer.parseInt(numbers[1]), Integer.parseInt(numbers[2]));
                if (answer < 0) {
                    return answer;
                }
                traded += answer;
            }
            return traded;
        });
    }

    int takeBack(int order) {
        return act(t -> {
            for (Standing standing : t.market) {
                if (standing.number == order) {
                    t.market.remove(standing);
                    backTo(t, standing);
                    return standing.left();
                }
            }
            return UNKNOWN;
        });
    }

    int buyReserve(int kiln, int permits) {
        return act(t -> {
            if (noKiln(kiln)) {
                return UNKNOWN;
            }
            if (noAmount(permits)) {
                return BAD_VALUE;
            }
            for (int i = 0; i < permits; i++) {
                if (t.reserve == 0 || t.coins[kiln] < t.settings[1]) {
                    return FULL;
                }
                t.reserve--;
                t.coins[kiln] -= t.settings[1];
                t.paid += t.settings[1];
                t.permits.get(kiln).add(t.year);
            }
            return t.reserve;
        });
    }

    int borrow(int kiln, int permits) {
        return act(t -> {
            if (noKiln(kiln)) {
                return UNKNOWN;
            }
            if (noAmount(permits)) {
                return BAD_VALUE;
            }
            t.borrowed[kiln] += permits;
            return t.borrowed[kiln] * 100 > t.told[kiln] * t.settings[2] ? FULL : t.borrowed[kiln];
        });
    }

    int set(int which, int value) {
        int[][] ranges = {{1, 99}, {100, 500}, {0, 100}, {0, 100}, {1, 5}};
        return act(t -> {
            if (which < 0 || which > 4 || value < ranges[which][0] || value > ranges[which][1]) {
                return BAD_VALUE;
            }
            int previous = t.settings[which];
            t.settings[which] = value;
            return previous == value ? NONE : previous;
        });
    }

    int endYear() {
        return act(t -> {
            if (t.year == 999) {
                return FULL;
            }
            int all = 0;
            for (int kiln = 0; kiln < 6; kiln++) {
                all += endYearOf(t, kiln);
            }
            t.year++;
            return all;
        });
    }

    private static int endYearOf(State t, int kiln) {
        int gives = t.told[kiln] + t.fines[kiln] + t.debt[kiln];
        int borrowed = t.borrowed[kiln];
        int lack = 0;
        t.permits.get(kiln).sort(Comparator.naturalOrder());
        int own = 0;
        for (int i = 0; i < gives; i++) {
            if (borrowed > 0) {
                borrowed--;
                t.borrowedGiven++;
            } else if (own < t.permits.get(kiln).size()) {
                own++;
                t.given++;
            } else {
                lack++;
                int coins = Math.min(t.coins[kiln], t.settings[1]);
                t.coins[kiln] -= coins;
                t.taken += coins;
            }
        }
        t.permits.get(kiln).subList(0, own).clear();
        int hundredths = t.borrowed[kiln] * (100 + t.settings[3]);
        t.owed[kiln] += hundredths / 100 + (hundredths % 100 == 0 ? 0 : 1);
        t.debt[kiln] = lack;
        t.smoke[kiln] = 0;
        t.told[kiln] = 0;
        t.borrowed[kiln] = 0;
        t.fines[kiln] = 0;
        return lack;
    }

    int type(char character) {
        if (text.length() == 60) {
            return FULL;
        }
        text += character;
        return text.length();
    }

    int clearText() {
        int length = text.length();
        text = "";
        return length;
    }

    int undo() {
        if (history.isEmpty()) {
            return NONE;
        }
        s = history.removeLast();
        return history.size();
    }

    int keep() {
        snapshot = s.copy();
        return s.year;
    }

    int restore() {
        if (snapshot == null) {
            return NONE;
        }
        remember(s);
        s = snapshot.copy();
        return s.year;
    }

    int kiln(int kiln, int what) {
        if (noKiln(kiln)) {
            return UNKNOWN;
        }
        Stream<Standing> own = s.market.stream().filter(standing -> standing.kiln == kiln);
        List<Integer> permits = s.permits.get(kiln);
        switch (what) {
            case 0: return s.coins[kiln];
            case 1: return permits.size();
            case 2: return s.smoke[kiln];
            case 3: return s.told[kiln];
            case 4: return s.borrowed[kiln];
            case 5: return s.fines[kiln];
            case 6: return s.debt[kiln];
            case 7: return s.owed[kiln];
            case 8: return endYearOf(s.copy(), kiln);
            case 9: return permits.stream().min(Comparator.naturalOrder()).orElse(NONE);
            case 10: return own.mapToInt(standing -> standing.offered.size()).sum();
            case 11: return own.mapToInt(standing -> standing.wanted * (standing.isBid ? standing.price : 0)).sum();
            default: return BAD_VALUE;
        }
    }

    int ofYear(int kiln, int year) {
        if (noKiln(kiln)) {
            return UNKNOWN;
        }
        if (year < 0 || year > s.year) {
            return BAD_VALUE;
        }
        return (int) s.permits.get(kiln).stream().filter(permit -> permit == year).count();
    }

    int order(boolean bids, int rank, int what) {
        if (rank < 0 || what < 0 || what > 3) {
            return BAD_VALUE;
        }
        List<Standing> side = side(s, bids);
        if (rank >= side.size()) {
            return NONE;
        }
        Standing order = side.get(rank);
        return new int[] {order.number, order.kiln, order.left(), order.price}[what];
    }

    int depth(boolean buy, int price) {
        if (price < 1 || price > 500) {
            return BAD_VALUE;
        }
        return side(s, !buy).stream()
            .filter(standing -> buy ? standing.price <= price : standing.price >= price)
            .mapToInt(Standing::left).sum();
    }

    int count(int what) {
        int kept = s.permits.stream().mapToInt(List::size).sum();
        int offered = s.market.stream().mapToInt(standing -> standing.offered.size()).sum();
        int coins = 0;
        for (int kiln = 0; kiln < 6; kiln++) {
            coins += kiln(kiln, 0) + kiln(kiln, 11);
        }
        int[] counts = {s.year, kept + offered, s.issued, s.given, s.borrowedGiven, s.reserve,
            500 - s.reserve, s.market.size(), s.orders, s.traded, s.latestPrice, coins, s.taken,
            s.paid, s.settings[0], s.settings[1], s.settings[2], s.settings[3], s.settings[4],
            history.size(), text.length()};
        return what < 0 || what >= counts.length ? BAD_VALUE : counts[what];
    }
}
