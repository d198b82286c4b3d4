/** Each promise of the document by itself: ordinary inputs, its edges, and wrong inputs. */
public final class PromisesTest {
    private static final int UNKNOWN = KilnPermits.UNKNOWN;
    private static final int BAD_VALUE = KilnPermits.BAD_VALUE;
    private static final int FULL = KilnPermits.FULL;
    private static final int NONE = KilnPermits.NONE;

    private static final int COINS = 0;
    private static final int PERMITS = 1;
    private static final int SMOKE = 2;
    private static final int TOLD = 3;
    private static final int BORROWED = 4;
    private static final int FINES = 5;
    private static final int DEBT = 6;
    private static final int OWED = 7;
    private static final int LACK = 8;
    private static final int OLDEST = 9;
    private static final int OFFERED = 10;
    private static final int HELD = 11;

    private static final int FLOOR = 0;
    private static final int CEILING = 1;
    private static final int MOST_BORROWED = 2;
    private static final int INTEREST = 3;
    private static final int FINE = 4;

    private static final Check c = new Check("promises");

    private PromisesTest() {
    }

    public static void main(String[] args) {
        constants();
        newObject();
        issue();
        issueIsTakenOffForBorrowing();
        fire();
        audit();
        bid();
        bidMeetsAsks();
        ask();
        askMeetsBids();
        askGivesTheOldest();
        marketOfOneKiln();
        marketIsFull();
        orderAll();
        orderAllIsAllOrNone();
        orderAllFaults();
        takeBack();
        buyReserve();
        borrow();
        set();
        setLeavesStandingOrders();
        endYear();
        endYearBorrowed();
        endYearDebts();
        lastYear();
        type();
        clearText();
        undo();
        undoOfEachAct();
        keep();
        restore();
        kiln();
        ofYear();
        order();
        depth();
        count();
        countAddsUp();
        nothingChangesWithAnError();
        c.close();
    }

    private static void wrongKilns(int answer) {
        c.due(UNKNOWN, answer);
    }

    private static void constants() {
        c.part("constants");
        c.due(-1, KilnPermits.UNKNOWN);
        c.due(-2, KilnPermits.BAD_VALUE);
        c.due(-3, KilnPermits.FULL);
        c.due(-4, KilnPermits.NOT_POSSIBLE);
        c.due(-5, KilnPermits.NONE);
    }

    private static void newObject() {
        c.part("promise 1");
        KilnPermits x = new KilnPermits();
        int[] counts = {0, 0, 0, 0, 0, 500, 0, 0, 0, 0, NONE, 6000, 0, 0, 10, 100, 20, 10, 3, 0, 0};
        for (int what = 0; what < counts.length; what++) {
            c.due(counts[what], x.count(what));
        }
        int[] told = {1000, 0, 0, 0, 0, 0, 0, 0, 0, NONE, 0, 0};
        for (int kiln = 0; kiln < 6; kiln++) {
            for (int what = 0; what < told.length; what++) {
                c.due(told[what], x.kiln(kiln, what));
            }
            c.due(0, x.ofYear(kiln, 0));
        }
        c.due(NONE, x.order(true, 0, 0));
        c.due(NONE, x.order(false, 0, 0));
        c.due(NONE, x.undo());
        c.due(NONE, x.restore());
        c.due(0, x.clearText());
    }

    private static void issue() {
        c.part("promise 2");
        KilnPermits x = new KilnPermits();
        c.due(1, x.issue(0, 1));
        c.due(999, x.issue(5, 999));
        c.due(7, x.issue(0, 7));
        c.due(8, x.kiln(0, PERMITS));
        c.due(999, x.kiln(5, PERMITS));
        c.due(8, x.ofYear(0, 0));
        c.due(1007, x.count(2));
        x.endYear();
        c.due(3, x.issue(0, 3));
        c.due(8, x.ofYear(0, 0));
        c.due(3, x.ofYear(0, 1));
        wrongKilns(x.issue(-1, 1));
        wrongKilns(x.issue(6, 1));
        wrongKilns(x.issue(6, 0));
        wrongKilns(x.issue(Integer.MIN_VALUE, 1));
        wrongKilns(x.issue(Integer.MAX_VALUE, 1));
        c.due(BAD_VALUE, x.issue(0, 0));
        c.due(BAD_VALUE, x.issue(0, -1));
        c.due(BAD_VALUE, x.issue(0, 1000));
        c.due(BAD_VALUE, x.issue(5, Integer.MAX_VALUE));
        c.due(BAD_VALUE, x.issue(5, Integer.MIN_VALUE));
        c.due(1010, x.count(2));
    }

    private static void issueIsTakenOffForBorrowing() {
        c.part("promise 2, borrowed");
        KilnPermits x = new KilnPermits();
        x.fire(2, 50, 50);
        c.due(10, x.borrow(2, 10));
        c.due(5, x.issue(2, 5));
        x.endYear();
        c.due(11, x.kiln(2, OWED));
        c.due(0, x.issue(2, 4));
        c.due(7, x.kiln(2, OWED));
        c.due(0, x.kiln(2, PERMITS));
        c.due(NONE, x.kiln(2, OLDEST));
        c.due(0, x.issue(2, 7));
        c.due(0, x.kiln(2, OWED));
        c.due(6, x.issue(2, 6));
        c.due(6, x.ofYear(2, 1));
        c.due(11, x.count(2));
        KilnPermits y = new KilnPermits();
        y.fire(2, 50, 50);
        y.borrow(2, 10);
        y.endYear();
        c.due(1, y.issue(2, 12));
        c.due(0, y.kiln(2, OWED));
        c.due(12, y.issue(3, 12));
        // an issue of which nothing is left is an act all the same
        KilnPermits z = new KilnPermits();
        z.fire(2, 5, 5);
        z.borrow(2, 1);
        z.endYear();
        c.due(0, z.issue(2, 1));
        c.due(4, z.count(19));
        c.due(3, z.undo());
        c.due(2, z.kiln(2, OWED));
    }

    private static void fire() {
        c.part("promise 3");
        KilnPermits x = new KilnPermits();
        c.due(4, x.fire(1, 10, 4));
        c.due(4, x.fire(1, 1, 0));
        c.due(1003, x.fire(1, 999, 999));
        c.due(1010, x.kiln(1, SMOKE));
        c.due(1003, x.kiln(1, TOLD));
        c.due(0, x.kiln(0, SMOKE));
        c.due(1, x.fire(0, 1, 1));
        c.due(4, x.count(19));
        wrongKilns(x.fire(-1, 1, 1));
        wrongKilns(x.fire(6, 1, 1));
        wrongKilns(x.fire(6, 0, 7));
        c.due(BAD_VALUE, x.fire(0, 0, 0));
        c.due(BAD_VALUE, x.fire(0, -1, -1));
        c.due(BAD_VALUE, x.fire(0, 1000, 1));
        c.due(BAD_VALUE, x.fire(0, 5, 6));
        c.due(BAD_VALUE, x.fire(0, 5, -1));
        c.due(BAD_VALUE, x.fire(0, 5, Integer.MIN_VALUE));
        c.due(1, x.kiln(0, TOLD));
        c.due(5, x.fire(5, 5, 5));
        c.due(5, x.fire(5, 5, 0));
        x.endYear();
        c.due(0, x.kiln(5, SMOKE));
        c.due(0, x.kiln(5, TOLD));
        c.due(2, x.fire(5, 3, 2));
    }

    private static void audit() {
        c.part("promise 4");
        KilnPermits x = new KilnPermits();
        c.due(NONE, x.audit(0));
        x.fire(0, 10, 10);
        c.due(NONE, x.audit(0));
        c.due(1, x.count(19));
        x.fire(0, 10, 3);
        c.due(7, x.audit(0));
        c.due(20, x.kiln(0, SMOKE));
        c.due(20, x.kiln(0, TOLD));
        c.due(21, x.kiln(0, FINES));
        c.due(NONE, x.audit(0));
        x.set(FINE, 5);
        x.fire(0, 2, 0);
        c.due(2, x.audit(0));
        c.due(31, x.kiln(0, FINES));
        c.due(53, x.kiln(0, LACK));
        x.fire(0, 9, 0);
        x.endYear();
        c.due(NONE, x.audit(0));
        wrongKilns(x.audit(-1));
        wrongKilns(x.audit(6));
    }

    private static void bid() {
        c.part("promise 5");
        KilnPermits x = new KilnPermits();
        c.due(0, x.bid(0, 10, 50));
        c.due(500, x.kiln(0, COINS));
        c.due(500, x.kiln(0, HELD));
        c.due(6000, x.count(11));
        c.due(0, x.bid(0, 50, 10));
        c.due(0, x.kiln(0, COINS));
        c.due(FULL, x.bid(0, 1, 10));
        c.due(FULL, x.bid(1, 101, 10));
        c.due(FULL, x.bid(1, 11, 100));
        c.due(FULL, x.bid(1, 999, 100));
        c.due(0, x.bid(1, 10, 100));
        c.due(0, x.bid(2, 100, 10));
        wrongKilns(x.bid(-1, 1, 10));
        wrongKilns(x.bid(6, 0, 0));
        c.due(BAD_VALUE, x.bid(3, 0, 10));
        c.due(BAD_VALUE, x.bid(3, 1000, 10));
        c.due(BAD_VALUE, x.bid(3, -1, 10));
        c.due(BAD_VALUE, x.bid(3, 1, 9));
        c.due(BAD_VALUE, x.bid(3, 1, 101));
        c.due(BAD_VALUE, x.bid(0, 1, 101));
        c.due(BAD_VALUE, x.bid(3, 1, Integer.MAX_VALUE));
        c.due(BAD_VALUE, x.bid(3, 1, Integer.MIN_VALUE));
        c.due(4, x.count(7));
        c.due(4, x.count(8));
        x.set(FLOOR, 1);
        c.due(0, x.bid(3, 999, 1));
        c.due(1, x.kiln(3, COINS));
        c.due(999, x.kiln(3, HELD));
    }

    private static void bidMeetsAsks() {
        c.part("promise 5, asks");
        KilnPermits x = new KilnPermits();
        x.issue(0, 100);
        x.issue(1, 100);
        x.ask(0, 5, 30);
        x.ask(1, 5, 20);
        x.ask(0, 5, 20);
        x.ask(1, 5, 40);
        c.due(7, x.bid(2, 7, 30));
        // the cheapest first, of several the one that came first; at their prices
        c.due(1000 - 7 * 20, x.kiln(2, COINS));
        c.due(1000 + 5 * 20, x.kiln(1, COINS));
        c.due(1000 + 2 * 20, x.kiln(0, COINS));
        c.due(2, x.order(false, 0, 0));
        c.due(3, x.order(false, 0, 2));
        c.due(20, x.count(10));
        c.due(7, x.count(9));
        c.due(8, x.bid(2, 20, 30));
        c.due(12, x.order(true, 0, 2));
        c.due(30, x.order(true, 0, 3));
        c.due(30, x.count(10));
        c.due(12 * 30, x.kiln(2, HELD));
        c.due(1000 - 10 * 20 - 5 * 30 - 12 * 30, x.kiln(2, COINS));
        c.due(15, x.kiln(2, PERMITS));
        c.due(2, x.count(7));
        c.due(0, x.bid(2, 1, 39));
        c.due(1, x.bid(2, 1, 40));
        c.due(40, x.count(10));
        c.due(6000, x.count(11));
        c.due(200, x.count(1));
    }

    private static void ask() {
        c.part("promise 6");
        KilnPermits x = new KilnPermits();
        c.due(FULL, x.ask(0, 1, 10));
        x.issue(0, 10);
        c.due(FULL, x.ask(0, 11, 10));
        c.due(0, x.ask(0, 4, 100));
        c.due(6, x.kiln(0, PERMITS));
        c.due(4, x.kiln(0, OFFERED));
        c.due(FULL, x.ask(0, 7, 10));
        c.due(0, x.ask(0, 6, 10));
        c.due(0, x.kiln(0, PERMITS));
        c.due(10, x.kiln(0, OFFERED));
        c.due(10, x.count(1));
        x.issue(3, 999);
        wrongKilns(x.ask(-1, 1, 10));
        wrongKilns(x.ask(6, 0, 0));
        c.due(BAD_VALUE, x.ask(3, 0, 10));
        c.due(BAD_VALUE, x.ask(3, 1000, 10));
        c.due(BAD_VALUE, x.ask(4, 1000, 10));
        c.due(BAD_VALUE, x.ask(3, -1, 10));
        c.due(BAD_VALUE, x.ask(3, 1, 9));
        c.due(BAD_VALUE, x.ask(4, 1, 9));
        c.due(BAD_VALUE, x.ask(3, 1, 101));
        c.due(0, x.ask(3, 999, 10));
        c.due(3, x.count(8));
    }

    private static void askMeetsBids() {
        c.part("promise 6, bids");
        KilnPermits x = new KilnPermits();
        x.issue(0, 100);
        x.bid(1, 5, 20);
        x.bid(2, 5, 30);
        x.bid(3, 5, 30);
        x.bid(4, 5, 10);
        c.due(7, x.ask(0, 7, 20));
        // the dearest first, of several the one that came first; at their prices
        c.due(5, x.kiln(2, PERMITS));
        c.due(2, x.kiln(3, PERMITS));
        c.due(1000 + 7 * 30, x.kiln(0, COINS));
        c.due(3 * 30, x.kiln(3, HELD));
        c.due(1000 - 5 * 30, x.kiln(3, COINS));
        c.due(8, x.ask(0, 20, 20));
        c.due(20, x.count(10));
        c.due(12, x.order(false, 0, 2));
        c.due(12, x.kiln(0, OFFERED));
        c.due(1000 + 10 * 30 + 5 * 20, x.kiln(0, COINS));
        c.due(73, x.kiln(0, PERMITS));
        c.due(0, x.ask(0, 1, 11));
        c.due(1, x.ask(0, 1, 10));
        c.due(4, x.order(true, 0, 2));
        c.due(6000, x.count(11));
        c.due(100, x.count(1));
    }

    private static void askGivesTheOldest() {
        c.part("promise 6, the oldest");
        KilnPermits x = new KilnPermits();
        x.issue(0, 3);
        x.endYear();
        x.issue(0, 4);
        x.endYear();
        x.issue(0, 5);
        x.ask(0, 8, 20);
        c.due(0, x.ofYear(0, 0));
        c.due(0, x.ofYear(0, 1));
        c.due(4, x.ofYear(0, 2));
        c.due(2, x.kiln(0, OLDEST));
        c.due(2, x.bid(1, 2, 20));
        c.due(2, x.ofYear(1, 0));
        c.due(3, x.bid(2, 3, 20));
        c.due(1, x.ofYear(2, 0));
        c.due(2, x.ofYear(2, 1));
        c.due(0, x.kiln(2, OLDEST));
        c.due(3, x.takeBack(0));
        c.due(2, x.ofYear(0, 1));
        c.due(5, x.ofYear(0, 2));
        c.due(1, x.kiln(0, OLDEST));
        // an ask that comes gives the oldest of those that it offers first, too
        x.bid(3, 1, 20);
        x.bid(4, 2, 19);
        c.due(3, x.ask(0, 5, 19));
        c.due(1, x.ofYear(3, 1));
        c.due(1, x.ofYear(4, 1));
        c.due(1, x.ofYear(4, 2));
        c.due(2, x.ofYear(0, 2));
        c.due(2, x.order(false, 0, 2));
    }

    private static void marketOfOneKiln() {
        c.part("promise 6, the same kiln");
        KilnPermits x = new KilnPermits();
        x.issue(0, 1);
        x.endYear();
        x.issue(0, 2);
        x.bid(0, 1, 50);
        // the oldest one was offered and comes back, the newer ones stay offered
        c.due(1, x.ask(0, 2, 20));
        c.due(1, x.ofYear(0, 0));
        c.due(1, x.ofYear(0, 1));
        c.due(1, x.kiln(0, OFFERED));
        c.due(1000, x.kiln(0, COINS));
        c.due(1, x.count(9));
        c.due(50, x.count(10));
        c.due(1, x.bid(0, 1, 100));
        c.due(20, x.count(10));
        c.due(1000, x.kiln(0, COINS));
        c.due(0, x.kiln(0, HELD));
        c.due(3, x.kiln(0, PERMITS));
        c.due(2, x.ofYear(0, 1));
    }

    private static void marketIsFull() {
        c.part("promises 5 and 6, room");
        KilnPermits x = new KilnPermits();
        x.issue(0, 30);
        for (int i = 0; i < 16; i++) {
            c.due(0, i % 2 == 0 ? x.ask(0, 1, 90) : x.bid(1, 1, 20));
        }
        c.due(16, x.count(7));
        c.due(0, x.bid(2, 3, 89));
        c.due(1000, x.kiln(2, COINS));
        c.due(0, x.kiln(2, HELD));
        c.due(16, x.count(7));
        c.due(17, x.count(8));
        c.due(0, x.ask(0, 3, 21));
        c.due(22, x.kiln(0, PERMITS));
        c.due(8, x.kiln(0, OFFERED));
        c.due(18, x.count(8));
        c.due(UNKNOWN, x.takeBack(16));
        c.due(UNKNOWN, x.takeBack(17));
        // filled in part by orders that stay: what is left is given back
        x.issue(0, 5);
        x.takeBack(0);
        c.due(0, x.ask(0, 5, 80));
        c.due(2, x.bid(2, 2, 80));
        c.due(3, x.order(false, 0, 2));
        c.due(16, x.count(7));
        // one that fills another makes room for what is left of it
        c.due(3, x.bid(2, 5, 80));
        c.due(16, x.count(7));
        c.due(2, x.order(true, 0, 2));
        c.due(160, x.kiln(2, HELD));
        c.due(1000 - 5 * 80 - 160, x.kiln(2, COINS));
        c.due(2, x.ask(0, 7, 21));
        c.due(16, x.count(7));
        c.due(5, x.order(false, 0, 2));
        c.due(21, x.order(false, 0, 0));
        c.due(0, x.kiln(2, HELD));
        c.due(6000, x.count(11));
        // a single one that is left has no room either
        KilnPermits y = new KilnPermits();
        y.issue(0, 20);
        for (int i = 0; i < 16; i++) {
            y.ask(0, 1, 30);
        }
        c.due(0, y.bid(1, 1, 29));
        c.due(16, y.count(7));
        c.due(1000, y.kiln(1, COINS));
        c.due(0, y.ask(0, 1, 30));
        c.due(16, y.count(7));
        c.due(4, y.kiln(0, PERMITS));
        // and one that meets all of them has room again
        c.due(16, y.bid(1, 20, 30));
        c.due(1, y.count(7));
        c.due(4, y.order(true, 0, 2));
        c.due(18, y.order(true, 0, 0));
        c.due(400, y.kiln(1, COINS));
    }

    private static void orderAll() {
        c.part("promise 7");
        KilnPermits x = new KilnPermits();
        x.issue(0, 999);
        Asking.typeAll(x, "a0:20@30;b1:5@40;b2:6@30");
        c.due(11, x.orderAll());
        c.due(2, x.count(19));
        c.due(3, x.count(8));
        c.due(24, x.count(20));
        c.due(1000 - 5 * 30, x.kiln(1, COINS));
        c.due(6, x.kiln(2, PERMITS));
        c.due(9, x.order(false, 0, 2));
        c.due(0, x.order(false, 0, 0));
        c.due(1, x.undo());
        c.due(0, x.count(8));
        c.due(24, x.count(20));
        c.due(1000, x.kiln(1, COINS));
        c.due(999, x.kiln(0, PERMITS));
        c.due(11, x.orderAll());
        Asking.typeAll(x, "b5:1@10");
        c.due(0, x.orderAll());
        c.due(10, x.order(true, 0, 3));
        x.set(CEILING, 500);
        Asking.typeAll(x, "a0:900@500");
        c.due(0, x.orderAll());
        c.due(500, x.order(false, 1, 3));
        c.due(900, x.order(false, 1, 2));
        // as many as a text can hold
        KilnPermits y = new KilnPermits();
        y.set(FLOOR, 1);
        Asking.typeAll(y, "b0:1@1;b1:1@2;b2:1@3;b3:1@4;b4:1@5;b5:1@6;b0:1@7;b1:9@800");
        c.due(-100 - 56, y.orderAll());
        Asking.typeAll(y, "b0:1@1;b1:1@2;b2:1@3;b3:1@4;b4:1@5;b5:1@6;b0:1@7;b1:9@80");
        c.due(56, y.count(20));
        c.due(0, y.orderAll());
        c.due(8, y.count(7));
        c.due(80, y.order(true, 0, 3));
        c.due(1, y.order(true, 7, 3));
    }

    private static void orderAllIsAllOrNone() {
        c.part("promise 7, all or none");
        KilnPermits x = new KilnPermits();
        x.issue(0, 5);
        x.bid(3, 2, 50);
        Asking.typeAll(x, "a0:3@20;b1:4@30;a0:4@20");
        c.due(FULL, x.orderAll());
        c.due(5, x.kiln(0, PERMITS));
        c.due(1000, x.kiln(0, COINS));
        c.due(1000, x.kiln(1, COINS));
        c.due(900, x.kiln(3, COINS));
        c.due(0, x.kiln(3, PERMITS));
        c.due(1, x.count(7));
        c.due(1, x.count(8));
        c.due(0, x.count(9));
        c.due(NONE, x.count(10));
        c.due(2, x.count(19));
        c.due(23, x.count(20));
        // what an order earned lets a later one come
        Asking.typeAll(x, "a0:2@20;b0:11@99;b0:2@5");
        c.due(BAD_VALUE, x.orderAll());
        Asking.typeAll(x, "a0:2@20;b0:11@100");
        c.due(2, x.orderAll());
        c.due(0, x.kiln(0, COINS));
        x.undo();
        // the first order that has an error tells it, when its turn comes
        Asking.typeAll(x, "b0:11@100;b0:1@101");
        c.due(FULL, x.orderAll());
        Asking.typeAll(x, "b0:1@101;b0:11@100");
        c.due(BAD_VALUE, x.orderAll());
        c.due(2, x.count(19));
        c.due(1, x.undo());
        c.due(0, x.count(8));
        c.due(5, x.kiln(0, PERMITS));
    }

    private static void fault(int fault, String text) {
        KilnPermits x = new KilnPermits();
        Asking.typeAll(x, text);
        c.part("promise 7, text \"" + text + "\"");
        c.due(-100 - fault, x.orderAll());
        c.due(0, x.count(8));
        c.due(0, x.count(19));
        c.due(text.length(), x.count(20));
    }

    private static void orderAllFaults() {
        String good = "b0:1@10";
        fault(0, "");
        fault(0, " ");
        fault(0, ";");
        fault(0, "B0:1@10");
        fault(0, "c0:1@10");
        fault(1, "b");
        fault(1, "b6:1@10");
        fault(1, "b:1@10");
        fault(1, "b/:1@10");
        fault(2, "a5");
        fault(2, "b00:1@10");
        fault(2, "b0;1@10");
        fault(3, "b0:");
        fault(3, "b0:0@10");
        fault(3, "b0:@10");
        fault(3, "b0:-1@10");
        fault(4, "b0:1");
        fault(6, "b0:1000@10");
        fault(6, "b0:999");
        fault(6, "b0:9999@10");
        fault(6, "b0:100:10");
        fault(5, "b0:1@");
        fault(5, "b0:1@0");
        fault(5, "b0:1@;");
        fault(7, "b0:1@501");
        fault(8, "b0:1@5000");
        fault(7, "b0:1@510");
        fault(8, "b0:1@4999");
        fault(6, "b0:1@6b");
        fault(7, "b0:1@600");
        fault(7, good + " ");
        fault(8, good + ";");
        fault(8, good + ";;");
        fault(8, good + "; " + good);
        fault(9, good + ";a");
        fault(13, good + ";a0:1@0");
        fault(13, good + ";a0:1@:");
        fault(7, good + "\u0131");
        fault(4, "b0:1\u0661@10");
        fault(1, "b\uff10:1@10");
        fault(0, "\u0162" + good);
        // the shortest orders: as many as there is room for, and the beginning of one more
        String eight = "b0:1@9;".repeat(8);
        fault(56, eight);
        fault(60, eight + "b0:1");
        fault(60, eight + "a5:9");
        fault(59, eight + "a5:0");
        fault(57, eight + "a6:0");
        fault(56, eight + "c");
    }

    private static void takeBack() {
        c.part("promise 8");
        KilnPermits x = new KilnPermits();
        x.issue(0, 10);
        x.ask(0, 4, 20);
        x.bid(1, 6, 20);
        x.bid(1, 3, 15);
        c.due(UNKNOWN, x.takeBack(0));
        c.due(2, x.takeBack(1));
        c.due(1000 - 80 - 45, x.kiln(1, COINS));
        c.due(UNKNOWN, x.takeBack(1));
        c.due(3, x.takeBack(2));
        c.due(920, x.kiln(1, COINS));
        c.due(0, x.count(7));
        c.due(3, x.count(8));
        x.ask(0, 5, 20);
        c.due(UNKNOWN, x.takeBack(4));
        c.due(UNKNOWN, x.takeBack(-1));
        c.due(UNKNOWN, x.takeBack(Integer.MAX_VALUE));
        c.due(UNKNOWN, x.takeBack(Integer.MIN_VALUE));
        c.due(4, x.count(19));
        c.due(5, x.takeBack(3));
        c.due(6, x.kiln(0, PERMITS));
        c.due(0, x.kiln(0, OFFERED));
        c.due(3, x.undo());
        c.due(5, x.order(false, 0, 2));
        c.due(1, x.kiln(0, PERMITS));
        c.due(5, x.kiln(0, OFFERED));
        KilnPermits y = new KilnPermits();
        c.due(UNKNOWN, y.takeBack(0));
    }

    private static void buyReserve() {
        c.part("promise 9");
        KilnPermits x = new KilnPermits();
        x.endYear();
        c.due(497, x.buyReserve(0, 3));
        c.due(700, x.kiln(0, COINS));
        c.due(3, x.ofYear(0, 1));
        c.due(497, x.count(5));
        c.due(3, x.count(6));
        c.due(300, x.count(13));
        c.due(0, x.count(2));
        c.due(FULL, x.buyReserve(0, 8));
        c.due(490, x.buyReserve(0, 7));
        c.due(0, x.kiln(0, COINS));
        c.due(FULL, x.buyReserve(0, 1));
        x.set(CEILING, 101);
        c.due(FULL, x.buyReserve(1, 10));
        c.due(481, x.buyReserve(1, 9));
        c.due(91, x.kiln(1, COINS));
        c.due(1909, x.count(13));
        c.due(6000 - 1909, x.count(11));
        wrongKilns(x.buyReserve(-1, 1));
        wrongKilns(x.buyReserve(6, 0));
        c.due(BAD_VALUE, x.buyReserve(2, 0));
        c.due(BAD_VALUE, x.buyReserve(2, -5));
        c.due(BAD_VALUE, x.buyReserve(2, 1000));
        c.due(BAD_VALUE, x.buyReserve(0, 1000));
        c.due(FULL, x.buyReserve(2, 999));
        // what bids hold back does not pay for it
        x.bid(2, 9, 101);
        c.due(FULL, x.buyReserve(2, 1));
        c.due(NONE, x.count(10));
        c.due(0, x.count(9));
    }

    private static void borrow() {
        c.part("promise 10");
        KilnPermits x = new KilnPermits();
        c.due(FULL, x.borrow(0, 1));
        x.fire(0, 100, 54);
        c.due(FULL, x.borrow(0, 11));
        c.due(4, x.borrow(0, 4));
        c.due(FULL, x.borrow(0, 7));
        c.due(10, x.borrow(0, 6));
        c.due(FULL, x.borrow(0, 1));
        c.due(10, x.kiln(0, BORROWED));
        c.due(0, x.kiln(0, PERMITS));
        c.due(44, x.kiln(0, LACK));
        c.due(46, x.audit(0));
        c.due(20, x.borrow(0, 10));
        c.due(FULL, x.borrow(0, 1));
        x.set(MOST_BORROWED, 100);
        c.due(100, x.borrow(0, 80));
        c.due(FULL, x.borrow(0, 1));
        x.set(MOST_BORROWED, 0);
        c.due(100, x.kiln(0, BORROWED));
        x.fire(1, 999, 999);
        c.due(FULL, x.borrow(1, 1));
        wrongKilns(x.borrow(-1, 1));
        wrongKilns(x.borrow(6, 0));
        c.due(BAD_VALUE, x.borrow(1, 0));
        c.due(BAD_VALUE, x.borrow(1, -1));
        c.due(BAD_VALUE, x.borrow(1, 1000));
        c.due(FULL, x.borrow(1, 999));
        x.set(MOST_BORROWED, 100);
        c.due(999, x.borrow(1, 999));
        x.endYear();
        c.due(0, x.kiln(1, BORROWED));
        c.due(FULL, x.borrow(1, 1));
    }

    private static void set() {
        c.part("promise 11");
        int[] least = {1, 100, 0, 0, 1};
        int[] most = {99, 500, 100, 100, 5};
        int[] first = {10, 100, 20, 10, 3};
        for (int which = 0; which < 5; which++) {
            KilnPermits x = new KilnPermits();
            c.due(NONE, x.set(which, first[which]));
            c.due(0, x.count(19));
            c.due(BAD_VALUE, x.set(which, least[which] - 1));
            c.due(BAD_VALUE, x.set(which, most[which] + 1));
            c.due(BAD_VALUE, x.set(which, Integer.MIN_VALUE));
            c.due(BAD_VALUE, x.set(which, Integer.MAX_VALUE));
            c.due(first[which], x.set(which, most[which]));
            c.due(most[which], x.count(14 + which));
            c.due(1, x.count(19));
            c.due(NONE, x.set(which, most[which]));
            if (least[which] != most[which]) {
                c.due(most[which], x.set(which, least[which]));
            }
            c.due(least[which], x.count(14 + which));
            for (int other = 0; other < 5; other++) {
                if (other != which) {
                    c.due(first[other], x.count(14 + other));
                }
            }
            c.due(1, x.undo());
            c.due(most[which], x.count(14 + which));
        }
        KilnPermits x = new KilnPermits();
        c.due(BAD_VALUE, x.set(-1, 10));
        c.due(BAD_VALUE, x.set(5, 3));
        c.due(BAD_VALUE, x.set(Integer.MAX_VALUE, 10));
        c.due(BAD_VALUE, x.set(Integer.MIN_VALUE, 10));
    }

    private static void setLeavesStandingOrders() {
        c.part("promise 11, standing orders");
        KilnPermits x = new KilnPermits();
        x.issue(0, 10);
        x.ask(0, 3, 10);
        x.set(FLOOR, 50);
        c.due(1, x.count(7));
        c.due(10, x.order(false, 0, 3));
        c.due(BAD_VALUE, x.bid(1, 1, 49));
        c.due(2, x.bid(1, 2, 50));
        c.due(980, x.kiln(1, COINS));
        c.due(10, x.count(10));
        x.set(CEILING, 500);
        c.due(1, x.bid(2, 2, 500));
        c.due(500, x.order(true, 0, 3));
        x.set(CEILING, 100);
        c.due(BAD_VALUE, x.ask(0, 1, 101));
        c.due(1, x.ask(0, 1, 100));
        c.due(500, x.count(10));
    }

    private static void endYear() {
        c.part("promise 12");
        KilnPermits x = new KilnPermits();
        x.issue(0, 3);
        c.due(0, x.endYear());
        x.issue(0, 4);
        c.due(0, x.endYear());
        x.issue(0, 5);
        c.due(2, x.count(0));
        x.fire(0, 9, 5);
        c.due(0, x.endYear());
        // the oldest first, and nothing for what was not told
        c.due(0, x.ofYear(0, 0));
        c.due(2, x.ofYear(0, 1));
        c.due(5, x.ofYear(0, 2));
        c.due(0, x.kiln(0, SMOKE));
        c.due(0, x.kiln(0, TOLD));
        c.due(5, x.count(3));
        c.due(0, x.count(12));
        x.fire(0, 3, 2);
        x.audit(0);
        c.due(3, x.kiln(0, FINES));
        x.fire(1, 7, 7);
        x.fire(4, 4, 4);
        c.due(11, x.endYear());
        c.due(1, x.kiln(0, PERMITS));
        c.due(0, x.kiln(0, FINES));
        c.due(300, x.kiln(1, COINS));
        c.due(7, x.kiln(1, DEBT));
        c.due(600, x.kiln(4, COINS));
        c.due(4, x.kiln(4, DEBT));
        c.due(1100, x.count(12));
        c.due(11, x.count(3));
        // debts lack again, and all coins go if they are too few
        c.due(11, x.endYear());
        c.due(0, x.kiln(1, COINS));
        c.due(200, x.kiln(4, COINS));
        c.due(7, x.kiln(1, DEBT));
        c.due(1100 + 300 + 400, x.count(12));
        c.due(5, x.count(0));
        // standing orders stay, and what they hold is not given
        x.issue(1, 7);
        x.ask(1, 2, 20);
        x.bid(4, 1, 10);
        c.due(2 + 4, x.endYear());
        c.due(2, x.count(7));
        c.due(2, x.kiln(1, OFFERED));
        c.due(10, x.kiln(4, HELD));
        c.due(0, x.kiln(4, COINS));
        c.due(2, x.kiln(1, DEBT));
    }

    private static void endYearBorrowed() {
        c.part("promise 12, borrowed");
        KilnPermits x = new KilnPermits();
        x.set(MOST_BORROWED, 100);
        x.issue(0, 6);
        x.fire(0, 10, 10);
        x.borrow(0, 7);
        c.due(0, x.endYear());
        // borrowed ones first, its own after them
        c.due(3, x.kiln(0, PERMITS));
        c.due(3, x.count(3));
        c.due(7, x.count(4));
        c.due(8, x.kiln(0, OWED));
        c.due(0, x.kiln(0, BORROWED));
        x.fire(0, 10, 10);
        x.borrow(0, 10);
        x.set(INTEREST, 0);
        c.due(0, x.endYear());
        c.due(18, x.kiln(0, OWED));
        c.due(17, x.count(4));
        x.set(INTEREST, 100);
        x.fire(0, 1, 1);
        x.borrow(0, 1);
        c.due(0, x.endYear());
        c.due(20, x.kiln(0, OWED));
        x.set(INTEREST, 1);
        x.fire(0, 100, 100);
        x.borrow(0, 100);
        x.endYear();
        c.due(121, x.kiln(0, OWED));
        x.fire(0, 101, 101);
        x.borrow(0, 101);
        x.endYear();
        c.due(121 + 103, x.kiln(0, OWED));
        c.due(0, x.kiln(0, DEBT));
        c.due(3, x.kiln(0, PERMITS));
        c.due(3, x.count(3));
        c.due(17 + 1 + 201, x.count(4));
    }

    private static void endYearDebts() {
        c.part("promise 12, debts");
        KilnPermits x = new KilnPermits();
        x.fire(0, 30, 10);
        x.audit(0);
        x.issue(0, 40);
        // told 30, fines 60, and 40 permits
        c.due(50, x.kiln(0, LACK));
        x.borrow(0, 6);
        c.due(44, x.kiln(0, LACK));
        c.due(44, x.endYear());
        c.due(0, x.kiln(0, COINS));
        c.due(1000, x.count(12));
        c.due(44, x.kiln(0, DEBT));
        c.due(7, x.kiln(0, OWED));
        c.due(43, x.issue(0, 50));
        c.due(1, x.endYear());
        c.due(1, x.kiln(0, DEBT));
        c.due(1, x.issue(0, 1));
        c.due(0, x.endYear());
        c.due(0, x.kiln(0, DEBT));
        c.due(40 + 43 + 1, x.count(3));
        c.due(1000, x.count(12));
        // the ceiling of now is taken for each, as far as coins go
        KilnPermits y = new KilnPermits();
        y.set(CEILING, 333);
        y.fire(0, 3, 3);
        y.fire(1, 4, 4);
        y.fire(5, 2, 2);
        c.due(9, y.endYear());
        c.due(1, y.kiln(0, COINS));
        c.due(0, y.kiln(1, COINS));
        c.due(334, y.kiln(5, COINS));
        c.due(999 + 1000 + 666, y.count(12));
        c.due(6000 - 2665, y.count(11));
        // much lacks
        KilnPermits z = new KilnPermits();
        z.set(CEILING, 500);
        z.set(FINE, 5);
        for (int i = 0; i < 500; i++) {
            z.fire(3, 999, 0);
        }
        c.due(499500, z.audit(3));
        c.due(2997000, z.kiln(3, LACK));
        c.due(2997000, z.endYear());
        c.due(0, z.kiln(3, COINS));
        c.due(2997000, z.kiln(3, DEBT));
        c.due(1000, z.count(12));
    }

    private static void lastYear() {
        c.part("promise 12, many years");
        KilnPermits x = new KilnPermits();
        for (int year = 0; year < 300; year++) {
            if (year % 2 == 0) {
                x.issue(0, 1);
            }
            c.due(0, x.endYear());
        }
        c.due(300, x.count(0));
        c.due(1, x.ofYear(0, 298));
        c.due(0, x.ofYear(0, 299));
        c.due(0, x.ofYear(0, 300));
        c.due(BAD_VALUE, x.ofYear(0, 301));
        c.due(150, x.kiln(0, PERMITS));
        x.ask(0, 149, 10);
        c.due(298, x.kiln(0, OLDEST));
        c.due(100, x.bid(1, 100, 10));
        c.due(0, x.kiln(1, OLDEST));
        c.due(1, x.ofYear(1, 198));
        c.due(0, x.ofYear(1, 200));
        x.takeBack(0);
        c.due(200, x.kiln(0, OLDEST));
        x.fire(1, 99, 99);
        x.endYear();
        c.due(198, x.kiln(1, OLDEST));
        x.undo();
        x.undo();
        c.due(100, x.kiln(1, PERMITS));
        c.due(1, x.ofYear(1, 0));
        // the document's edge, though an object is not used for that many calls
        KilnPermits y = new KilnPermits();
        for (int year = 0; year < 999; year++) {
            y.endYear();
        }
        c.due(999, y.count(0));
        c.due(5, y.issue(0, 5));
        c.due(5, y.ofYear(0, 999));
        c.due(FULL, y.endYear());
        c.due(999, y.count(0));
    }

    private static void type() {
        c.part("promise 13");
        KilnPermits x = new KilnPermits();
        c.due(1, x.type('x'));
        c.due(2, x.type((char) 0));
        c.due(3, x.type((char) 65535));
        for (int length = 4; length <= 60; length++) {
            c.due(length, x.type(';'));
        }
        c.due(FULL, x.type('b'));
        c.due(FULL, x.type((char) 300));
        c.due(60, x.count(20));
        c.due(0, x.count(19));
        c.due(60, x.clearText());
        c.due(1, x.type('b'));
        c.due(-101, x.orderAll());
        // it is no act, and no part of the state
        x.issue(0, 1);
        x.keep();
        x.type('0');
        x.undo();
        c.due(2, x.count(20));
        x.restore();
        c.due(2, x.count(20));
        c.due(-102, x.orderAll());
    }

    private static void clearText() {
        c.part("promise 14");
        KilnPermits x = new KilnPermits();
        c.due(0, x.clearText());
        Asking.typeAll(x, "b0:1@10");
        c.due(7, x.clearText());
        c.due(0, x.count(20));
        c.due(0, x.clearText());
        c.due(-100, x.orderAll());
        c.due(0, x.count(19));
        x.type('a');
        c.due(-101, x.orderAll());
    }

    private static void undo() {
        c.part("promise 15");
        KilnPermits x = new KilnPermits();
        c.due(NONE, x.undo());
        x.issue(0, 1);
        c.due(0, x.undo());
        c.due(0, x.kiln(0, PERMITS));
        c.due(NONE, x.undo());
        for (int i = 1; i <= 6; i++) {
            x.issue(0, i);
            c.due(Math.min(i, 4), x.count(19));
        }
        c.due(21, x.kiln(0, PERMITS));
        c.due(3, x.undo());
        c.due(15, x.kiln(0, PERMITS));
        c.due(2, x.undo());
        c.due(10, x.kiln(0, PERMITS));
        x.issue(0, 100);
        c.due(3, x.count(19));
        c.due(2, x.undo());
        c.due(10, x.kiln(0, PERMITS));
        c.due(1, x.undo());
        c.due(0, x.undo());
        c.due(3, x.kiln(0, PERMITS));
        c.due(NONE, x.undo());
        c.due(3, x.kiln(0, PERMITS));
    }

    private static KilnPermits busyTown() {
        KilnPermits x = new KilnPermits();
        x.set(MOST_BORROWED, 50);
        x.issue(0, 20);
        x.fire(2, 10, 6);
        x.borrow(2, 2);
        x.endYear();
        x.issue(0, 10);
        x.issue(1, 9);
        x.ask(0, 22, 30);
        x.ask(1, 3, 25);
        x.bid(3, 4, 20);
        x.bid(4, 2, 22);
        x.fire(1, 20, 10);
        x.borrow(1, 3);
        Asking.typeAll(x, "b5:4@30;a1:5@22");
        return x;
    }

    private static int act(KilnPermits x, int which) {
        switch (which) {
            case 0: return x.issue(2, 5);
            case 1: return x.fire(0, 4, 2);
            case 2: return x.audit(1);
            case 3: return x.bid(5, 9, 31);
            case 4: return x.ask(1, 4, 20);
            case 5: return x.orderAll();
            case 6: return x.takeBack(0);
            case 7: return x.takeBack(2);
            case 8: return x.buyReserve(3, 2);
            case 9: return x.borrow(1, 1);
            case 10: return x.set(1, 200);
            case 11: return x.endYear();
            default: return x.restore();
        }
    }

    private static void undoOfEachAct() {
        for (int which = 0; which <= 12; which++) {
            c.part("promise 15, act " + which);
            KilnPermits x = busyTown();
            x.buyReserve(4, 1);
            x.bid(5, 1, 40);
            x.fire(4, 3, 1);
            x.audit(4);
            x.keep();
            x.fire(5, 7, 7);
            String before = Asking.all(x);
            c.holds("the act is done", act(x, which) >= 0);
            c.holds("the act changes", !Asking.all(x).equals(before));
            c.due(4, x.count(19));
            c.due(3, x.undo());
            c.holds("all is as before", Asking.all(x).equals(before));
        }
    }

    private static void keep() {
        c.part("promise 16");
        KilnPermits x = new KilnPermits();
        c.due(0, x.keep());
        c.due(0, x.count(19));
        x.issue(0, 5);
        x.endYear();
        c.due(1, x.keep());
        x.endYear();
        x.issue(0, 7);
        c.due(1, x.restore());
        c.due(5, x.kiln(0, PERMITS));
        x.endYear();
        x.endYear();
        c.due(3, x.keep());
        c.due(3, x.restore());
        // undoing leaves the snapshot
        x.undo();
        x.undo();
        c.due(3, x.restore());
    }

    private static void restore() {
        c.part("promise 17");
        KilnPermits x = new KilnPermits();
        c.due(NONE, x.restore());
        c.due(0, x.count(19));
        KilnPermits y = busyTown();
        String kept = Asking.all(y);
        c.due(1, y.keep());
        y.endYear();
        y.takeBack(0);
        y.issue(0, 50);
        y.set(FLOOR, 33);
        String changed = Asking.all(y);
        c.due(1, y.restore());
        c.holds("all is as it was kept", Asking.all(y).equals(kept));
        c.due(4, y.count(19));
        c.due(3, y.undo());
        c.holds("restore() is undone", Asking.all(y).equals(changed));
        c.due(1, y.restore());
        c.holds("the snapshot stays", Asking.all(y).equals(kept));
        y.issue(0, 1);
        y.orderAll();
        c.due(1, y.restore());
        c.holds("the snapshot is no state of now", Asking.all(y).equals(kept));
    }

    private static void kiln() {
        c.part("promise 18");
        KilnPermits x = busyTown();
        int[] first = {1000, 8, 0, 0, 0, 0, 0, 0, 0, 1, 22, 0};
        int[] second = {1000, 6, 20, 10, 3, 0, 0, 0, 1, 1, 3, 0};
        int[] third = {600, 0, 0, 0, 0, 0, 4, 3, 4, NONE, 0, 0};
        int[] fourth = {920, 0, 0, 0, 0, 0, 0, 0, 0, NONE, 0, 80};
        for (int what = 0; what <= 11; what++) {
            c.due(first[what], x.kiln(0, what));
            c.due(second[what], x.kiln(1, what));
            c.due(third[what], x.kiln(2, what));
            c.due(fourth[what], x.kiln(3, what));
        }
        x.audit(1);
        c.due(30, x.kiln(1, FINES));
        c.due(20 + 30 - 3 - 6, x.kiln(1, LACK));
        x.bid(3, 2, 12);
        c.due(104, x.kiln(3, HELD));
        wrongKilns(x.kiln(-1, 0));
        wrongKilns(x.kiln(6, 0));
        wrongKilns(x.kiln(6, 12));
        wrongKilns(x.kiln(Integer.MIN_VALUE, -1));
        c.due(BAD_VALUE, x.kiln(0, -1));
        c.due(BAD_VALUE, x.kiln(0, 12));
        c.due(BAD_VALUE, x.kiln(5, Integer.MAX_VALUE));
        c.due(BAD_VALUE, x.kiln(5, Integer.MIN_VALUE));
        // more than enough is no lack
        KilnPermits y = new KilnPermits();
        y.issue(0, 10);
        y.fire(0, 9, 9);
        c.due(0, y.kiln(0, LACK));
        y.fire(0, 2, 2);
        c.due(1, y.kiln(0, LACK));
        y.ask(0, 4, 20);
        c.due(5, y.kiln(0, LACK));
    }

    private static void ofYear() {
        c.part("promise 19");
        KilnPermits x = new KilnPermits();
        x.issue(0, 3);
        c.due(3, x.ofYear(0, 0));
        c.due(BAD_VALUE, x.ofYear(0, 1));
        c.due(BAD_VALUE, x.ofYear(0, -1));
        x.endYear();
        c.due(0, x.ofYear(0, 1));
        x.endYear();
        x.issue(0, 8);
        c.due(3, x.ofYear(0, 0));
        c.due(0, x.ofYear(0, 1));
        c.due(8, x.ofYear(0, 2));
        c.due(BAD_VALUE, x.ofYear(0, 3));
        c.due(BAD_VALUE, x.ofYear(0, Integer.MAX_VALUE));
        c.due(BAD_VALUE, x.ofYear(0, Integer.MIN_VALUE));
        c.due(0, x.ofYear(1, 2));
        wrongKilns(x.ofYear(-1, 0));
        wrongKilns(x.ofYear(6, 0));
        wrongKilns(x.ofYear(6, 3));
        x.ask(0, 2, 20);
        c.due(1, x.ofYear(0, 0));
        x.undo();
        x.undo();
        x.undo();
        c.due(BAD_VALUE, x.ofYear(0, 2));
        c.due(0, x.ofYear(0, 1));
        x.endYear();
        c.due(0, x.ofYear(0, 2));
        // what was issued in a year that is no more does not come back when that year comes again
        KilnPermits y = new KilnPermits();
        y.issue(0, 3);
        y.keep();
        y.endYear();
        y.endYear();
        y.issue(0, 8);
        y.restore();
        y.endYear();
        y.endYear();
        y.endYear();
        y.issue(0, 2);
        c.due(3, y.ofYear(0, 0));
        c.due(0, y.ofYear(0, 1));
        c.due(0, y.ofYear(0, 2));
        c.due(2, y.ofYear(0, 3));
        c.due(5, y.kiln(0, PERMITS));
    }

    private static void order() {
        c.part("promise 20");
        KilnPermits x = new KilnPermits();
        x.issue(0, 100);
        x.ask(0, 1, 60);
        x.ask(0, 2, 50);
        x.ask(0, 3, 60);
        x.bid(1, 4, 20);
        x.bid(2, 5, 30);
        x.bid(3, 6, 20);
        x.bid(4, 7, 20);
        int[][] asks = {{1, 0, 2, 50}, {0, 0, 1, 60}, {2, 0, 3, 60}};
        int[][] bids = {{4, 2, 5, 30}, {3, 1, 4, 20}, {5, 3, 6, 20}, {6, 4, 7, 20}};
        for (int what = 0; what < 4; what++) {
            for (int rank = 0; rank < asks.length; rank++) {
                c.due(asks[rank][what], x.order(false, rank, what));
            }
            for (int rank = 0; rank < bids.length; rank++) {
                c.due(bids[rank][what], x.order(true, rank, what));
            }
            c.due(NONE, x.order(false, 3, what));
            c.due(NONE, x.order(true, 4, what));
            c.due(NONE, x.order(true, Integer.MAX_VALUE, what));
            c.due(BAD_VALUE, x.order(true, -1, what));
            c.due(BAD_VALUE, x.order(false, Integer.MIN_VALUE, what));
        }
        c.due(BAD_VALUE, x.order(true, 0, -1));
        c.due(BAD_VALUE, x.order(true, 0, 4));
        c.due(BAD_VALUE, x.order(true, 99, 4));
        c.due(BAD_VALUE, x.order(false, 99, Integer.MIN_VALUE));
        // a place that became free does not put a later order ahead
        x.takeBack(0);
        x.ask(0, 9, 60);
        c.due(2, x.order(false, 1, 0));
        c.due(7, x.order(false, 2, 0));
        x.takeBack(3);
        x.bid(1, 1, 20);
        c.due(5, x.order(true, 1, 0));
        c.due(8, x.order(true, 3, 0));
        // and the one that came first trades first
        c.due(8, x.ask(0, 8, 20));
        c.due(5, x.kiln(2, PERMITS));
        c.due(3, x.kiln(3, PERMITS));
    }

    private static void depth() {
        c.part("promise 21");
        KilnPermits x = new KilnPermits();
        x.issue(0, 100);
        x.ask(0, 3, 60);
        x.ask(0, 4, 50);
        x.ask(0, 5, 60);
        x.bid(1, 7, 20);
        x.bid(2, 8, 30);
        x.bid(2, 9, 10);
        c.due(0, x.depth(true, 49));
        c.due(4, x.depth(true, 50));
        c.due(4, x.depth(true, 59));
        c.due(12, x.depth(true, 60));
        c.due(12, x.depth(true, 500));
        c.due(0, x.depth(true, 1));
        c.due(24, x.depth(false, 1));
        c.due(24, x.depth(false, 10));
        c.due(15, x.depth(false, 11));
        c.due(15, x.depth(false, 20));
        c.due(8, x.depth(false, 21));
        c.due(8, x.depth(false, 30));
        c.due(0, x.depth(false, 31));
        c.due(0, x.depth(false, 500));
        c.due(BAD_VALUE, x.depth(true, 0));
        c.due(BAD_VALUE, x.depth(true, 501));
        c.due(BAD_VALUE, x.depth(false, 0));
        c.due(BAD_VALUE, x.depth(false, 501));
        c.due(BAD_VALUE, x.depth(false, Integer.MIN_VALUE));
        c.due(BAD_VALUE, x.depth(true, Integer.MAX_VALUE));
        x.bid(3, 5, 55);
        c.due(0, x.depth(true, 59));
        c.due(8, x.depth(true, 60));
        c.due(1, x.depth(false, 55));
    }

    private static void count() {
        c.part("promise 22");
        KilnPermits x = busyTown();
        x.orderAll();
        x.buyReserve(0, 2);
        x.set(INTEREST, 11);
        x.set(FINE, 4);
        // bid 4 of kiln 5 at 30: 3 of ask 1 at 25, 1 of ask 0 at 30; ask 5 of kiln 1 at 22: 2 to kiln 4
        int[] counts = {1, 41, 39, 0, 2, 498, 2, 3, 6, 6, 22, 5400, 400, 200, 10, 100, 50, 11, 4, 4, 15};
        for (int what = 0; what < counts.length; what++) {
            c.part("promise 22, " + what);
            c.due(counts[what], x.count(what));
        }
        c.due(BAD_VALUE, x.count(-1));
        c.due(BAD_VALUE, x.count(21));
        c.due(BAD_VALUE, x.count(Integer.MAX_VALUE));
        c.due(BAD_VALUE, x.count(Integer.MIN_VALUE));
        x.undo();
        c.due(3, x.count(18));
        c.due(3, x.count(19));
    }

    private static void countAddsUp() {
        c.part("promise 22, accounts");
        KilnPermits x = busyTown();
        for (int round = 0; round < 10; round++) {
            x.issue(round % 6, 3 + round);
            x.fire((round + 1) % 6, 5, 2);
            x.buyReserve(4, 1);
            x.bid(5, 1, 20 + round);
            x.ask(0, 1, 20);
            if (round % 3 == 2) {
                x.audit((round + 1) % 6);
                x.endYear();
            }
            c.due(x.count(2) + x.count(6) - x.count(3), x.count(1));
            c.due(6000 - x.count(12) - x.count(13), x.count(11));
            c.due(500, x.count(5) + x.count(6));
        }
    }

    private static void nothingChangesWithAnError() {
        c.part("errors");
        KilnPermits x = busyTown();
        Asking.typeAll(x, "b5:4@30;a1:7@22");
        String before = Asking.all(x);
        c.due(FULL, x.orderAll());
        c.due(FULL, x.bid(0, 999, 100));
        c.due(FULL, x.ask(0, 9, 20));
        c.due(FULL, x.buyReserve(0, 500));
        c.due(FULL, x.borrow(1, 3));
        c.due(BAD_VALUE, x.issue(0, 0));
        c.due(BAD_VALUE, x.fire(0, 1, 2));
        c.due(BAD_VALUE, x.bid(0, 1, 9));
        c.due(BAD_VALUE, x.ask(0, 1, 9));
        c.due(BAD_VALUE, x.set(0, 100));
        c.due(NONE, x.set(0, 10));
        c.due(NONE, x.audit(3));
        c.due(NONE, x.restore());
        c.due(UNKNOWN, x.takeBack(99));
        c.due(UNKNOWN, x.audit(6));
        c.due(4, x.count(19));
        c.holds("nothing has changed", Asking.all(x).equals(before));
    }
}
