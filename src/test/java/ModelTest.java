import java.util.Random;

/** Runs of 512 calls, each answer compared with that of the slow model. */
public final class ModelTest {
    private static final int RUNS = 1500;
    private static final int CALLS = 512;

    private final Check c;
    private final Random random;
    private final KilnPermits town = new KilnPermits();
    private final TownModel model = new TownModel();
    // Each run has its own manner, so that some have many years and some a full market.
    private final int yearsOneIn;
    private final int amounts;
    private final int spread;
    private final int undoOneIn;

    private ModelTest(Check c, int seed) {
        this.c = c;
        random = new Random(seed);
        yearsOneIn = 1 + random.nextInt(12);
        amounts = seed % 7 == 0 ? 999 : 1 + random.nextInt(30);
        spread = 1 + random.nextInt(25);
        undoOneIn = 1 + random.nextInt(12);
    }

    public static void main(String[] args) {
        Check c = new Check("model");
        for (int seed = 0; seed < RUNS && !c.isTooWrong(); seed++) {
            c.part("seed " + seed);
            new ModelTest(c, seed).run();
        }
        c.close();
    }

    private void run() {
        int calls = 0;
        while (calls < CALLS && !c.isTooWrong()) {
            int kind = random.nextInt(10);
            if (kind == 0) {
                calls += typeOrders();
            } else if (kind < 8) {
                callAct();
                calls++;
            } else {
                callQuestion();
                calls++;
            }
        }
        compareAll();
    }

    private int kiln() {
        return random.nextInt(60) == 0 ? random.nextInt(9) - 2 : random.nextInt(6);
    }

    private int amount() {
        int kind = random.nextInt(40);
        if (kind == 0) {
            return random.nextInt(1100) - 50;
        }
        return 1 + random.nextInt(amounts);
    }

    private int price() {
        if (random.nextInt(30) == 0) {
            return random.nextInt(600) - 20;
        }
        int floor = model.count(14);
        return floor + random.nextInt(spread);
    }

    private int typeOrders() {
        StringBuilder text = new StringBuilder();
        int orders = 1 + random.nextInt(6);
        for (int i = 0; i < orders; i++) {
            if (i > 0) {
                text.append(';');
            }
            text.append(random.nextBoolean() ? 'a' : 'b').append(random.nextInt(6)).append(':')
                .append(1 + random.nextInt(amounts)).append('@').append(price());
        }
        if (random.nextInt(3) == 0) {
            text.setCharAt(random.nextInt(text.length()), "ab0159:@; c".charAt(random.nextInt(11)));
        }
        c.due(model.clearText(), town.clearText());
        for (int i = 0; i < text.length(); i++) {
            c.due(model.type(text.charAt(i)), town.type(text.charAt(i)));
        }
        c.due(model.orderAll(), town.orderAll());
        return text.length() + 2;
    }

    private void callAct() {
        if (random.nextInt(yearsOneIn) == 0 && random.nextInt(2) == 0) {
            c.due(model.endYear(), town.endYear());
            return;
        }
        int k = kiln();
        int n = amount();
        int p = price();
        switch (random.nextInt(16)) {
            case 0, 1:
                c.due(model.issue(k, n), town.issue(k, n));
                break;
            case 2:
                int told = random.nextInt(n < 1 ? 5 : n + 2) - (random.nextInt(20) == 0 ? 1 : 0);
                c.due(model.fire(k, n, told), town.fire(k, n, told));
                break;
            case 3:
                c.due(model.audit(k), town.audit(k));
                break;
            case 4, 5, 6:
                c.due(model.bid(k, n, p), town.bid(k, n, p));
                break;
            case 7, 8, 9:
                c.due(model.ask(k, n, p), town.ask(k, n, p));
                break;
            case 10:
                int order = standingOrder();
                c.due(model.takeBack(order), town.takeBack(order));
                break;
            case 11:
                int few = 1 + random.nextInt(9);
                c.due(model.buyReserve(k, few), town.buyReserve(k, few));
                break;
            case 12:
                int borrowed = 1 + random.nextInt(1 + amounts / 4);
                c.due(model.borrow(k, borrowed), town.borrow(k, borrowed));
                break;
            case 13:
                set();
                break;
            case 14:
                c.due(model.orderAll(), town.orderAll());
                break;
            default:
                callHistory();
                break;
        }
    }

    private void set() {
        int which = random.nextInt(20) == 0 ? random.nextInt(9) - 2 : random.nextInt(5);
        int[] most = {25, 130, 100, 100, 6};
        int value = which == 1 ? 99 + random.nextInt(30)
            : random.nextInt(which < 0 || which > 4 ? 5 : most[which]);
        c.due(model.set(which, value), town.set(which, value));
    }

    private int standingOrder() {
        if (random.nextInt(3) == 0) {
            return random.nextInt(1 + model.count(8)) - 1;
        }
        return model.order(random.nextBoolean(), random.nextInt(4), 0);
    }

    private void callHistory() {
        int kind = random.nextInt(undoOneIn + 2);
        if (kind == 0) {
            c.due(model.keep(), town.keep());
        } else if (kind == 1) {
            c.due(model.restore(), town.restore());
        } else {
            c.due(model.undo(), town.undo());
        }
    }

    private void callQuestion() {
        int k = kiln();
        int small = random.nextInt(23) - 1;
        int what = random.nextInt(14) - 1;
        boolean side = random.nextBoolean();
        switch (random.nextInt(10)) {
            case 0, 1, 2:
                c.due(model.kiln(k, what), town.kiln(k, what));
                break;
            case 3:
                int year = random.nextInt(model.count(0) + 3) - 1;
                c.due(model.ofYear(k, year), town.ofYear(k, year));
                break;
            case 4, 5:
                int column = random.nextInt(6) - 1;
                c.due(model.order(side, small, column), town.order(side, small, column));
                break;
            case 6:
                int price = random.nextInt(4) == 0 ? random.nextInt(510) - 3 : price();
                c.due(model.depth(side, price), town.depth(side, price));
                break;
            case 7, 8:
                c.due(model.count(small), town.count(small));
                break;
            default:
                if (random.nextInt(10) == 0) {
                    compareAll();
                }
                break;
        }
    }

    private void compareAll() {
        for (int what = 0; what <= 20; what++) {
            c.due(model.count(what), town.count(what));
        }
        for (int kiln = 0; kiln < 6; kiln++) {
            for (int what = 0; what <= 11; what++) {
                c.due(model.kiln(kiln, what), town.kiln(kiln, what));
            }
            for (int year = 0; year <= model.count(0); year++) {
                c.due(model.ofYear(kiln, year), town.ofYear(kiln, year));
            }
        }
        for (int rank = 0; rank <= 16; rank++) {
            for (int what = 0; what <= 3; what++) {
                c.due(model.order(true, rank, what), town.order(true, rank, what));
                c.due(model.order(false, rank, what), town.order(false, rank, what));
            }
        }
    }
}
