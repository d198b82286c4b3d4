import java.util.function.ToIntFunction;

/** Each line under "Promise 1" to "Promise 22" that names an edge, told before its test. */
public final class PromiseEdgesTest extends Edges {
    private PromiseEdgesTest() {
    }

    public static void main(String[] args) {
        begin("edges of the promises");
        newObject();
        issue();
        fire();
        audit();
        bid();
        ask();
        orderAll();
        takeBack();
        buyReserve();
        borrow();
        set();
        endYear();
        type();
        clearText();
        undo();
        keep();
        restore();
        kiln();
        ofYear();
        order();
        depth();
        count();
        close();
    }

    private static void says(int promise, String sentence) {
        says("promise " + promise + ": " + sentence);
    }

    /** A call with one argument that is told to have a range. */
    private interface OfValue {
        int call(KilnPermits x, int value);
    }

    private static void outOf(int least, int most, OfValue call) {
        for (int value : new int[] {least - 1, most + 1, LEAST, GREATEST}) {
            t.refused(BAD_VALUE, x -> call.call(x, value));
        }
    }

    private static void noKiln(OfKiln call) {
        for (int kiln : new int[] {-1, 6, LEAST, GREATEST}) {
            t.refused(UNKNOWN, x -> call.call(x, kiln));
        }
    }

    private static void newObject() {
        says(1, "Creates a town in the year 0, without permits.");
        t.tells(0, x -> x.count(0));
        t.tells(0, x -> x.count(1));
        for (int kiln = 0; kiln < 6; kiln++) {
            int number = kiln;
            t.tells(0, x -> x.kiln(number, PERMITS));
            t.tells(NONE, x -> x.kiln(number, OLDEST));
            t.tells(0, x -> x.ofYear(number, 0));
            t.refused(FULL, x -> x.ask(number, 1, 10));
        }
        t.refused(NONE, x -> x.undo());
        t.refused(NONE, x -> x.restore());
        t.refused(-100, x -> x.orderAll());
        t.refused(UNKNOWN, x -> x.takeBack(0));
        t.refused(NONE, x -> x.order(true, 0, 0));
        t.refused(NONE, x -> x.order(false, 0, 0));
        t.refused(NONE, x -> x.count(10));
        // a second object is a town of its own
        t.first(x -> x.issue(0, 5));
        KilnPermits other = new KilnPermits();
        c.due(0, other.count(1));
        c.due(0, other.count(19));
    }

    private static void issue() {
        says(2, "permits: 1 to 999");
        outOf(1, 999, (x, permits) -> x.issue(0, permits));
        t.act(1, x -> x.issue(0, 1));
        t.act(999, x -> x.issue(5, 999));
        outOf(1, 999, (x, permits) -> x.issue(5, permits));
        says(2, "Returns how many are given to it; UNKNOWN; BAD_VALUE.");
        noKiln((x, kiln) -> x.issue(kiln, 1));
        noKiln((x, kiln) -> x.issue(kiln, 0));
        owing(1);
        t.act(0, x -> x.issue(0, 1));
        owing(1);
        t.act(1, x -> x.issue(0, 2));
    }

    private static void fire() {
        says(3, "smoke: 1 to 999");
        outOf(1, 999, (x, smoke) -> x.fire(0, smoke, 0));
        outOf(1, 999, (x, smoke) -> x.fire(0, smoke, 1));
        t.act(0, x -> x.fire(0, 1, 0));
        t.act(0, x -> x.fire(5, 999, 0));
        says(3, "told: 0 to the smoke");
        outOf(0, 1, (x, told) -> x.fire(0, 1, told));
        outOf(0, 500, (x, told) -> x.fire(0, 500, told));
        outOf(0, 999, (x, told) -> x.fire(0, 999, told));
        t.act(0, x -> x.fire(0, 500, 0));
        t.act(1, x -> x.fire(0, 500, 1));
        t.act(500, x -> x.fire(0, 500, 499));
        t.act(1000, x -> x.fire(0, 500, 500));
        says(3, "Returns its smoke told of this year then; UNKNOWN; BAD_VALUE.");
        noKiln((x, kiln) -> x.fire(kiln, 1, 1));
        noKiln((x, kiln) -> x.fire(kiln, 0, 0));
        noKiln((x, kiln) -> x.fire(kiln, 1, 2));
        t.act(7, x -> x.fire(0, 9, 7));
        t.act(9, x -> x.fire(0, 2, 2));
        t.act(2, x -> x.audit(0));
        t.act(11, x -> x.fire(0, 1, 0));
        t.first(x -> x.endYear());
        t.act(3, x -> x.fire(0, 4, 3));
    }

    private static void audit() {
        says(4, "Returns how many units are found; UNKNOWN; NONE if none are.");
        noKiln(KilnPermits::audit);
        t.refused(NONE, x -> x.audit(0));
        t.act(1, x -> x.fire(0, 1, 1));
        t.refused(NONE, x -> x.audit(0));
        t.act(1, x -> x.fire(0, 1, 0));
        t.act(1, x -> x.audit(0));
        t.refused(NONE, x -> x.audit(0));
        t.act(2, x -> x.fire(0, 3, 0));
        t.act(2, x -> x.fire(0, 4, 0));
        t.act(7, x -> x.audit(0));
    }

    private static void bid() {
        says(5, "permits: 1 to 999");
        t.first(x -> x.set(FLOOR, 1));
        outOf(1, 999, (x, permits) -> x.bid(0, permits, 1));
        t.act(0, x -> x.bid(0, 1, 1));
        t.act(0, x -> x.bid(0, 999, 1));
        outOf(1, 999, (x, permits) -> x.bid(0, permits, 1));
        says(5, "price: from the floor to the ceiling");
        outOf(10, 100, (x, price) -> x.bid(0, 1, price));
        t.act(0, x -> x.bid(0, 1, 10));
        t.act(0, x -> x.bid(0, 1, 100));
        t.first(x -> x.set(FLOOR, 98));
        outOf(98, 100, (x, price) -> x.bid(0, 1, price));
        t.act(0, x -> x.bid(0, 1, 98));
        t.first(x -> x.set(CEILING, 102));
        outOf(98, 102, (x, price) -> x.bid(0, 1, price));
        t.act(0, x -> x.bid(0, 1, 102));
        says(5, "Returns how many permits are bought at once; UNKNOWN; BAD_VALUE; "
            + "FULL if the kiln has fewer coins than permits * price.");
        noKiln((x, kiln) -> x.bid(kiln, 1, 10));
        noKiln((x, kiln) -> x.bid(kiln, 0, 10));
        noKiln((x, kiln) -> x.bid(kiln, 999, 100));
        t.refused(BAD_VALUE, x -> x.bid(0, 0, 10));
        t.refused(BAD_VALUE, x -> x.bid(0, 999, 101));
        t.refused(FULL, x -> x.bid(0, 101, 10));
        t.refused(FULL, x -> x.bid(0, 11, 100));
        t.refused(FULL, x -> x.bid(0, 91, 11));
        t.refused(FULL, x -> x.bid(0, 999, 100));
        t.act(0, x -> x.bid(0, 27, 37));
        t.refused(FULL, x -> x.bid(0, 1, 10));
        t.act(0, x -> x.bid(1, 10, 100));
        t.act(0, x -> x.bid(2, 100, 10));
        // as many coins as it would cost, though the asks that it meets are cheaper
        newTown();
        t.first(x -> x.issue(0, 20));
        t.first(x -> x.ask(0, 20, 10));
        t.refused(FULL, x -> x.bid(1, 11, 91));
        t.act(10, x -> x.bid(1, 10, 100));
        t.act(9, x -> x.bid(1, 9, 100));
        t.refused(FULL, x -> x.bid(1, 9, 91));
        t.act(1, x -> x.bid(1, 9, 90));
        t.tells(80, x -> x.kiln(1, COINS));
    }

    private static void ask() {
        says(6, "permits: 1 to 999");
        t.first(x -> x.issue(0, 999));
        t.first(x -> x.issue(0, 1));
        outOf(1, 999, (x, permits) -> x.ask(0, permits, 10));
        t.act(0, x -> x.ask(0, 999, 10));
        t.act(0, x -> x.ask(0, 1, 10));
        outOf(1, 999, (x, permits) -> x.ask(0, permits, 10));
        says(6, "price: from the floor to the ceiling");
        t.first(x -> x.issue(0, 9));
        outOf(10, 100, (x, price) -> x.ask(0, 1, price));
        t.act(0, x -> x.ask(0, 1, 10));
        t.act(0, x -> x.ask(0, 1, 100));
        t.first(x -> x.set(FLOOR, 98));
        outOf(98, 100, (x, price) -> x.ask(0, 1, price));
        t.act(0, x -> x.ask(0, 1, 98));
        t.first(x -> x.set(CEILING, 102));
        outOf(98, 102, (x, price) -> x.ask(0, 1, price));
        t.act(0, x -> x.ask(0, 1, 102));
        says(6, "Returns how many permits are sold at once; UNKNOWN; BAD_VALUE; FULL if the kiln has fewer permits.");
        noKiln((x, kiln) -> x.ask(kiln, 1, 10));
        noKiln((x, kiln) -> x.ask(kiln, 0, 9));
        t.refused(FULL, x -> x.ask(0, 1, 10));
        t.refused(BAD_VALUE, x -> x.ask(0, 0, 10));
        t.refused(BAD_VALUE, x -> x.ask(0, 1, 9));
        t.first(x -> x.issue(0, 7));
        t.refused(FULL, x -> x.ask(0, 8, 10));
        t.refused(FULL, x -> x.ask(0, 999, 10));
        t.first(x -> x.bid(1, 3, 10));
        t.act(3, x -> x.ask(0, 7, 10));
        t.refused(FULL, x -> x.ask(0, 1, 10));
        // what it borrowed or bids for is no permit that it has
        newTown();
        t.first(x -> x.fire(0, 50, 50));
        t.first(x -> x.borrow(0, 10));
        t.first(x -> x.bid(0, 10, 10));
        t.refused(FULL, x -> x.ask(0, 1, 10));
    }

    private static void orderAll() {
        says(7, "The orders of the text, which stays, come, one after the other; all of them, or none.");
        t.first(x -> x.issue(0, 3));
        t.type("a0:3@20;b1:2@20");
        t.act(2, x -> x.orderAll());
        t.tells(15, x -> x.count(20));
        t.tells(2, x -> x.count(8));
        t.refused(FULL, x -> x.orderAll());
        t.type("b1:1@20;b1:1@20;b1:1@9");
        t.refused(BAD_VALUE, x -> x.orderAll());
        t.type("b1:1@20;b1:48@20;b0:1@10");
        t.refused(FULL, x -> x.orderAll());
        t.type("b1:1@20;b1:47@20;b0:1@10");
        t.act(1, x -> x.orderAll());
        says(7, "Returns how many permits are traded at once");
        t.first(x -> x.issue(0, 9));
        t.type("b1:1@10");
        t.act(0, x -> x.orderAll());
        t.type("a0:1@10");
        t.act(1, x -> x.orderAll());
        t.type("a0:8@10;b1:3@10;b2:4@10;b3:5@10");
        t.act(8, x -> x.orderAll());
        says(7, "-100 minus the fault of the text if it has one (which is an error)");
        t.refused(-100, x -> x.orderAll());
        t.type("b");
        t.refused(-101, x -> x.orderAll());
        t.type("b6:1@10");
        t.refused(-101, x -> x.orderAll());
        t.type("b0:1@10;b0:1@10;b0:1@10;b0:1@10;b0:1@10;b0:1@10;b0:1@10;b0:1");
        t.refused(-160, x -> x.orderAll());
        t.type("b0:1@10;b0:1@10;b0:1@10;b0:1@10;b0:1@10;b0:1@10;b0:1@10;b0:0");
        t.refused(-159, x -> x.orderAll());
        // a fault behind an order that has an error
        t.type("a0:9@10;b0:1@1x");
        t.refused(-114, x -> x.orderAll());
        firstErrorWhenItsTurnComes();
    }

    private static void firstErrorWhenItsTurnComes() {
        says(7, "otherwise the error that bid() or ask() returns for the first order that has one "
            + "when its turn comes.");
        t.type("b0:1@9");
        t.refused(BAD_VALUE, x -> x.orderAll());
        t.type("b0:1@101");
        t.refused(BAD_VALUE, x -> x.orderAll());
        t.type("b0:11@100");
        t.refused(FULL, x -> x.orderAll());
        t.type("a0:1@10");
        t.refused(FULL, x -> x.orderAll());
        t.type("b0:11@100;a0:1@9");
        t.refused(FULL, x -> x.orderAll());
        t.type("a0:1@9;b0:11@100");
        t.refused(BAD_VALUE, x -> x.orderAll());
        // an order may need what an earlier one of the text brings, or miss what it took
        newTown();
        t.first(x -> x.issue(0, 5));
        t.type("a1:3@10;a0:3@10;b1:3@10");
        t.refused(FULL, x -> x.orderAll());
        t.type("a0:3@10;b1:3@10;a1:3@10");
        t.act(3, x -> x.orderAll());
        newTown();
        t.type("b0:10@100;b0:1@10");
        t.refused(FULL, x -> x.orderAll());
        t.type("b0:10@99;b0:1@10");
        t.act(0, x -> x.orderAll());
        newTown();
        t.first(x -> x.issue(0, 1));
        t.type("a0:1@50;b1:1@50;b0:21@50");
        t.act(1, x -> x.orderAll());
        t.tells(0, x -> x.kiln(0, COINS));
        t.type("b0:1@10");
        t.refused(FULL, x -> x.orderAll());
        // for want of room an order is given back, which is no error
        asksStand(14);
        t.type("a0:1@50;a0:2@50;a0:3@50;b1:1@20");
        t.act(0, x -> x.orderAll());
        t.tells(16, x -> x.count(7));
        t.tells(18, x -> x.count(8));
        t.tells(83, x -> x.kiln(0, PERMITS));
    }

    private static void takeBack() {
        says(8, "what it held back comes back to its kiln");
        t.first(x -> x.issue(0, 2));
        t.first(x -> x.endYear());
        t.first(x -> x.issue(0, 3));
        t.first(x -> x.ask(0, 5, 100));
        t.first(x -> x.bid(5, 10, 99));
        t.act(5, x -> x.takeBack(0));
        t.tells(2, x -> x.ofYear(0, 0));
        t.tells(3, x -> x.ofYear(0, 1));
        t.act(10, x -> x.takeBack(1));
        t.tells(1000, x -> x.kiln(5, COINS));
        t.tells(0, x -> x.kiln(5, HELD));
        says(8, "they are numbered from 0 as they come, also those that are filled at once");
        t.first(x -> x.issue(0, 9));
        t.first(x -> x.ask(0, 2, 50));
        t.act(1, x -> x.bid(1, 1, 50));
        t.act(1, x -> x.bid(1, 3, 50));
        t.tells(2, x -> x.order(true, 0, 0));
        t.first(x -> x.ask(0, 1, 51));
        t.tells(3, x -> x.order(false, 0, 0));
        t.tells(4, x -> x.count(8));
        // a refused order gets no number, and one that is undone gives its own back
        t.refused(FULL, x -> x.ask(0, 9, 51));
        t.first(x -> x.ask(0, 1, 52));
        t.tells(4, x -> x.order(false, 1, 0));
        t.done(3, x -> x.undo());
        t.first(x -> x.bid(2, 1, 10));
        t.tells(4, x -> x.order(true, 1, 0));
        says(8, "Returns how many permits it still had; UNKNOWN if it does not stand.");
        t.refused(UNKNOWN, x -> x.takeBack(0));
        t.first(x -> x.issue(0, 999));
        t.first(x -> x.ask(0, 999, 10));
        t.act(1, x -> x.bid(1, 1, 10));
        for (int order : new int[] {-1, 1, 2, LEAST, GREATEST}) {
            t.refused(UNKNOWN, x -> x.takeBack(order));
        }
        t.act(998, x -> x.takeBack(0));
        t.refused(UNKNOWN, x -> x.takeBack(0));
        t.act(0, x -> x.bid(1, 1, 10));
        t.refused(UNKNOWN, x -> x.takeBack(3));
        t.act(1, x -> x.takeBack(2));
        t.refused(UNKNOWN, x -> x.takeBack(2));
        // one that a trade filled stands no more
        t.first(x -> x.bid(1, 3, 10));
        t.act(3, x -> x.ask(0, 3, 10));
        t.refused(UNKNOWN, x -> x.takeBack(3));
        t.refused(UNKNOWN, x -> x.takeBack(4));
        // nor one that there was no room for
        asksStand(16);
        t.act(0, x -> x.ask(0, 1, 50));
        t.refused(UNKNOWN, x -> x.takeBack(16));
        t.act(1, x -> x.takeBack(15));
        t.act(1, x -> x.takeBack(0));
    }

    private static void buyReserve() {
        says(9, "permits: 1 to 999");
        outOf(1, 999, (x, permits) -> x.buyReserve(0, permits));
        t.act(499, x -> x.buyReserve(0, 1));
        t.refused(FULL, x -> x.buyReserve(0, 999));
        says(9, "Returns how many are left in the reserve; UNKNOWN; BAD_VALUE; "
            + "FULL if the reserve has not so many, or the kiln not as many coins.");
        noKiln((x, kiln) -> x.buyReserve(kiln, 1));
        noKiln((x, kiln) -> x.buyReserve(kiln, 0));
        t.refused(FULL, x -> x.buyReserve(0, 11));
        t.refused(FULL, x -> x.buyReserve(0, 500));
        t.refused(FULL, x -> x.buyReserve(0, 501));
        t.act(490, x -> x.buyReserve(0, 10));
        t.refused(FULL, x -> x.buyReserve(0, 1));
        t.act(481, x -> x.buyReserve(1, 9));
        t.refused(FULL, x -> x.buyReserve(1, 2));
        t.act(480, x -> x.buyReserve(1, 1));
        // at the ceiling of now
        t.first(x -> x.set(CEILING, 111));
        t.refused(FULL, x -> x.buyReserve(2, 10));
        t.act(471, x -> x.buyReserve(2, 9));
        t.tells(1, x -> x.kiln(2, COINS));
        // with coins that are not held back
        t.first(x -> x.bid(3, 8, 111));
        t.refused(FULL, x -> x.buyReserve(3, 2));
        t.act(470, x -> x.buyReserve(3, 1));
        t.tells(1, x -> x.kiln(3, COINS));
        // the coins of all kilns buy 60 at most: the reserve is never empty
        newTown();
        for (int kiln = 0; kiln < 6; kiln++) {
            int number = kiln;
            t.act(490 - 10 * number, x -> x.buyReserve(number, 10));
        }
        t.tells(440, x -> x.count(5));
        t.tells(0, x -> x.count(11));
    }

    private static void borrow() {
        says(10, "permits: 1 to 999");
        outOf(1, 999, (x, permits) -> x.borrow(0, permits));
        t.first(x -> x.set(MOST_BORROWED, 100));
        t.first(x -> x.fire(0, 999, 999));
        t.first(x -> x.fire(0, 999, 999));
        outOf(1, 999, (x, permits) -> x.borrow(0, permits));
        t.act(1, x -> x.borrow(0, 1));
        t.act(1000, x -> x.borrow(0, 999));
        says(10, "Returns how many it has borrowed this year; UNKNOWN; BAD_VALUE; "
            + "FULL if that would be more than it may.");
        noKiln((x, kiln) -> x.borrow(kiln, 1));
        noKiln((x, kiln) -> x.borrow(kiln, 0));
        t.refused(FULL, x -> x.borrow(0, 1));
        t.first(x -> x.fire(0, 100, 29));
        t.refused(FULL, x -> x.borrow(0, 6));
        t.refused(FULL, x -> x.borrow(0, 999));
        t.act(2, x -> x.borrow(0, 2));
        t.refused(FULL, x -> x.borrow(0, 4));
        t.act(5, x -> x.borrow(0, 3));
        t.refused(FULL, x -> x.borrow(0, 1));
        // each kiln of its own smoke, and each year anew
        t.refused(FULL, x -> x.borrow(1, 1));
        t.first(x -> x.endYear());
        t.refused(FULL, x -> x.borrow(0, 1));
        t.first(x -> x.fire(0, 5, 5));
        t.act(1, x -> x.borrow(0, 1));
    }

    private static void set() {
        says(11, "which: 0 to 4");
        t.refused(BAD_VALUE, x -> x.set(-1, 10));
        t.refused(BAD_VALUE, x -> x.set(5, 3));
        t.refused(BAD_VALUE, x -> x.set(5, 0));
        t.refused(BAD_VALUE, x -> x.set(LEAST, 10));
        t.refused(BAD_VALUE, x -> x.set(GREATEST, 10));
        t.act(10, x -> x.set(0, 11));
        t.act(3, x -> x.set(4, 4));
        says(11, "value: in its range");
        for (int value : new int[] {LEAST, GREATEST, -1}) {
            for (int which = 0; which <= 4; which++) {
                int setting = which;
                t.refused(BAD_VALUE, x -> x.set(setting, value));
            }
        }
        ranges();
        says(11, "Returns the previous one; BAD_VALUE (which or value); NONE if it is so already.");
        t.refused(NONE, x -> x.set(0, 10));
        t.act(10, x -> x.set(0, 9));
        t.refused(NONE, x -> x.set(0, 9));
        t.act(9, x -> x.set(0, 10));
        t.refused(NONE, x -> x.set(1, 100));
        t.act(20, x -> x.set(2, 0));
        t.act(0, x -> x.set(2, 1));
        t.refused(NONE, x -> x.set(4, 3));
        says(11, "(standing orders stay, also outside of the floor and the ceiling)");
        t.first(x -> x.set(CEILING, 101));
        t.first(x -> x.issue(0, 9));
        t.first(x -> x.ask(0, 1, 101));
        t.first(x -> x.bid(1, 1, 10));
        t.first(x -> x.bid(1, 1, 11));
        t.act(10, x -> x.set(FLOOR, 11));
        t.act(101, x -> x.set(CEILING, 100));
        t.tells(3, x -> x.count(7));
        t.refused(BAD_VALUE, x -> x.bid(1, 1, 101));
        t.refused(BAD_VALUE, x -> x.ask(0, 1, 10));
        t.tells(101, x -> x.order(false, 0, 3));
        t.tells(10, x -> x.order(true, 1, 3));
        t.tells(1, x -> x.depth(true, 101));
        t.tells(2, x -> x.depth(false, 10));
        t.act(0, x -> x.bid(1, 1, 100));
        t.act(1, x -> x.takeBack(1));
        t.act(2, x -> x.ask(0, 3, 11));
    }

    private static void ranges() {
        int[] least = {1, 100, 0, 0, 1};
        int[] most = {99, 500, 100, 100, 5};
        for (int i = 0; i < least.length; i++) {
            int which = i;
            newTown();
            int first = new KilnPermits().count(14 + which);
            t.refused(BAD_VALUE, x -> x.set(which, least[which] - 1));
            t.refused(BAD_VALUE, x -> x.set(which, most[which] + 1));
            t.act(first, x -> x.set(which, most[which]));
            t.act(most[which], x -> x.set(which, least[which]));
            t.tells(least[which], x -> x.count(14 + which));
            t.refused(BAD_VALUE, x -> x.set(which, least[which] - 1));
            t.refused(BAD_VALUE, x -> x.set(which, most[which] + 1));
        }
    }

    private static void endYear() {
        says(12, "Returns how many permits lack of all kilns together");
        t.act(0, x -> x.endYear());
        t.first(x -> x.fire(0, 1, 1));
        t.first(x -> x.issue(0, 1));
        t.act(0, x -> x.endYear());
        t.first(x -> x.fire(0, 2, 2));
        t.first(x -> x.issue(0, 1));
        t.first(x -> x.issue(1, 9));
        t.act(1, x -> x.endYear());
        for (int kiln = 0; kiln < 6; kiln++) {
            int number = kiln;
            t.first(x -> x.fire(number, 10 + number, 10 + number));
        }
        t.act(1 + 75 - 9, x -> x.endYear());
        t.tells(1 + 10, x -> x.kiln(0, DEBT));
        t.tells(2, x -> x.kiln(1, DEBT));
        t.tells(15, x -> x.kiln(5, DEBT));
        says(12, "FULL if the year of now is 999.");
        // no object is used for so many calls, and nothing is promised then: the class holds it all the same
        KilnPermits x = new KilnPermits();
        for (int year = 0; year < 999; year++) {
            c.due(year, x.count(0));
            c.due(0, x.endYear());
        }
        c.due(999, x.count(0));
        c.due(FULL, x.endYear());
        c.due(999, x.count(0));
        c.due(4, x.count(19));
    }

    private static void type() {
        says(13, "character: any character");
        char[] any = {0, 1, '\n', ' ', ';', 'a', 127, 128, 255, 256, 0x7fff, 0x8000, 0xd800, 0xfffe, 0xffff};
        for (int i = 0; i < any.length; i++) {
            char character = any[i];
            t.done(i + 1, x -> x.type(character));
        }
        t.refused(-100, x -> x.orderAll());
        says(13, "Returns the length of the text then; FULL if it has 60 characters.");
        for (int i = 1; i <= 60; i++) {
            int length = i;
            t.done(length, x -> x.type("b0:1@10;".charAt((length - 1) % 8)));
        }
        t.refused(FULL, x -> x.type('@'));
        t.refused(FULL, x -> x.type((char) 0xffff));
        t.tells(60, x -> x.count(20));
        // the 60 characters are as they were
        t.refused(-160, x -> x.orderAll());
        t.done(60, x -> x.clearText());
        t.done(1, x -> x.type('b'));
    }

    private static void clearText() {
        says(14, "Returns the length that it had.");
        t.done(0, x -> x.clearText());
        t.done(1, x -> x.type(';'));
        t.done(1, x -> x.clearText());
        t.done(0, x -> x.clearText());
        t.type("x".repeat(59));
        t.done(59, x -> x.clearText());
        t.type("x".repeat(60));
        t.done(60, x -> x.clearText());
        t.tells(0, x -> x.count(20));
        t.refused(-100, x -> x.orderAll());
        t.type("b0:1@10");
        t.act(0, x -> x.orderAll());
    }

    private static void undo() {
        says(15, "Returns the number of states that are left; NONE if the history is empty.");
        t.refused(NONE, x -> x.undo());
        t.first(x -> x.issue(0, 1));
        t.done(0, x -> x.undo());
        t.refused(NONE, x -> x.undo());
        for (int i = 1; i <= 9; i++) {
            t.first(x -> x.issue(0, 1));
        }
        t.done(3, x -> x.undo());
        t.tells(8, x -> x.kiln(0, PERMITS));
        t.done(2, x -> x.undo());
        t.done(1, x -> x.undo());
        t.done(0, x -> x.undo());
        t.tells(5, x -> x.kiln(0, PERMITS));
        t.refused(NONE, x -> x.undo());
        t.refused(NONE, x -> x.undo());
        t.tells(5, x -> x.kiln(0, PERMITS));
        // calls that were refused are not among them
        t.refused(FULL, x -> x.ask(0, 6, 10));
        t.refused(NONE, x -> x.audit(0));
        t.refused(NONE, x -> x.undo());
    }

    private static void keep() {
        says(16, "Takes a snapshot of the state, in place of the one that was.");
        t.first(x -> x.issue(0, 1));
        t.done(0, x -> x.keep());
        t.first(x -> x.issue(0, 1));
        t.done(0, x -> x.keep());
        t.first(x -> x.issue(0, 1));
        t.act(0, x -> x.restore());
        t.tells(2, x -> x.kiln(0, PERMITS));
        // of the state alone, whose changes do not change it
        t.first(x -> x.ask(0, 2, 10));
        t.done(0, x -> x.keep());
        t.first(x -> x.bid(1, 1, 10));
        t.first(x -> x.set(FLOOR, 5));
        t.act(0, x -> x.restore());
        t.tells(2, x -> x.order(false, 0, 2));
        t.tells(10, x -> x.count(14));
        t.tells(4, x -> x.count(19));
        says(16, "Returns the year of now.");
        t.done(0, x -> x.keep());
        t.first(x -> x.endYear());
        t.done(1, x -> x.keep());
        t.done(0, x -> x.undo());
        t.done(0, x -> x.keep());
        t.tells(0, x -> x.count(19));
    }

    private static void restore() {
        says(17, "Restores the state of the snapshot, which stays.");
        t.done(0, x -> x.keep());
        t.first(x -> x.issue(0, 1));
        t.act(0, x -> x.restore());
        t.tells(0, x -> x.kiln(0, PERMITS));
        t.first(x -> x.issue(0, 2));
        t.act(0, x -> x.restore());
        t.tells(0, x -> x.kiln(0, PERMITS));
        t.act(0, x -> x.restore());
        says(17, "Returns the year of now then; NONE if there is no snapshot.");
        t.refused(NONE, x -> x.restore());
        t.first(x -> x.endYear());
        t.refused(NONE, x -> x.restore());
        t.done(1, x -> x.keep());
        t.first(x -> x.endYear());
        t.first(x -> x.endYear());
        t.act(1, x -> x.restore());
        t.tells(1, x -> x.count(0));
        t.refused(BAD_VALUE, x -> x.ofYear(0, 2));
    }

    private static void kiln() {
        says(18, "what: 0 for its coins");
        for (int kiln : new int[] {0, 5}) {
            outOf(0, 11, (x, what) -> x.kiln(kiln, what));
            for (int what = 0; what <= 11; what++) {
                int number = what;
                t.tells(number == 0 ? 1000 : number == OLDEST ? NONE : 0, x -> x.kiln(kiln, number));
            }
        }
        says(18, "Returns the number; UNKNOWN; BAD_VALUE.");
        noKiln((x, kiln) -> x.kiln(kiln, 0));
        noKiln((x, kiln) -> x.kiln(kiln, 11));
        noKiln((x, kiln) -> x.kiln(kiln, 12));
        noKiln((x, kiln) -> x.kiln(kiln, -1));
        says(18, "8 for how many permits would lack if the year ended now");
        t.first(x -> x.fire(0, 10, 10));
        t.tells(10, x -> x.kiln(0, LACK));
        t.first(x -> x.borrow(0, 2));
        t.tells(8, x -> x.kiln(0, LACK));
        t.first(x -> x.issue(0, 7));
        t.tells(1, x -> x.kiln(0, LACK));
        t.first(x -> x.issue(0, 1));
        t.tells(0, x -> x.kiln(0, LACK));
        t.first(x -> x.issue(0, 1));
        t.tells(0, x -> x.kiln(0, LACK));
        t.first(x -> x.ask(0, 2, 10));
        t.tells(1, x -> x.kiln(0, LACK));
        t.first(x -> x.fire(0, 1, 0));
        t.tells(1, x -> x.kiln(0, LACK));
        t.first(x -> x.audit(0));
        t.tells(5, x -> x.kiln(0, LACK));
        t.act(5, x -> x.endYear());
        t.tells(5, x -> x.kiln(0, LACK));
        says(18, "9 for the oldest year of its permits (NONE without any)");
        t.tells(NONE, x -> x.kiln(0, OLDEST));
        t.first(x -> x.endYear());
        t.first(x -> x.issue(0, 1));
        t.tells(1, x -> x.kiln(0, OLDEST));
        t.first(x -> x.endYear());
        t.first(x -> x.issue(0, 1));
        t.tells(1, x -> x.kiln(0, OLDEST));
        t.first(x -> x.ask(0, 1, 10));
        t.tells(2, x -> x.kiln(0, OLDEST));
        t.first(x -> x.ask(0, 1, 10));
        t.tells(NONE, x -> x.kiln(0, OLDEST));
        t.first(x -> x.bid(1, 2, 10));
        t.tells(1, x -> x.kiln(1, OLDEST));
        t.first(x -> x.fire(1, 1, 1));
        t.first(x -> x.endYear());
        t.tells(2, x -> x.kiln(1, OLDEST));
        says(18, "10 for permits that its asks offer, 11 for coins that its bids hold back");
        offeredAndHeldBack();
    }

    private static void offeredAndHeldBack() {
        t.first(x -> x.issue(0, 20));
        t.first(x -> x.ask(0, 3, 60));
        t.first(x -> x.ask(0, 4, 50));
        t.first(x -> x.bid(0, 5, 20));
        t.first(x -> x.bid(0, 6, 10));
        t.first(x -> x.bid(5, 7, 20));
        t.tells(7, x -> x.kiln(0, OFFERED));
        t.tells(160, x -> x.kiln(0, HELD));
        t.tells(0, x -> x.kiln(5, OFFERED));
        t.tells(140, x -> x.kiln(5, HELD));
        t.first(x -> x.bid(1, 5, 60));
        t.tells(2, x -> x.kiln(0, OFFERED));
        t.tells(0, x -> x.kiln(1, HELD));
        t.first(x -> x.ask(0, 6, 20));
        t.tells(2, x -> x.kiln(0, OFFERED));
        t.tells(60, x -> x.kiln(0, HELD));
        t.tells(120, x -> x.kiln(5, HELD));
        t.first(x -> x.takeBack(3));
        t.tells(0, x -> x.kiln(0, HELD));
        t.first(x -> x.takeBack(0));
        t.tells(0, x -> x.kiln(0, OFFERED));
    }

    private static void ofYear() {
        says(19, "year: a year from 0 to the year of now");
        outOf(0, 0, (x, year) -> x.ofYear(0, year));
        t.first(x -> x.issue(0, 7));
        t.tells(7, x -> x.ofYear(0, 0));
        for (int i = 1; i <= 9; i++) {
            int now = i;
            t.first(x -> x.endYear());
            outOf(0, now, (x, year) -> x.ofYear(0, year));
            t.tells(0, x -> x.ofYear(0, now));
            t.tells(0, x -> x.ofYear(5, 0));
        }
        t.first(x -> x.issue(0, 8));
        t.tells(8, x -> x.ofYear(0, 9));
        t.tells(7, x -> x.ofYear(0, 0));
        outOf(0, 9, (x, year) -> x.ofYear(0, year));
        t.done(3, x -> x.undo());
        t.done(2, x -> x.undo());
        t.refused(BAD_VALUE, x -> x.ofYear(0, 9));
        t.tells(0, x -> x.ofYear(0, 8));
        says(19, "Returns how many it has (those offered are not counted); UNKNOWN; BAD_VALUE.");
        noKiln((x, kiln) -> x.ofYear(kiln, 0));
        noKiln((x, kiln) -> x.ofYear(kiln, 1));
        noKiln((x, kiln) -> x.ofYear(kiln, -1));
        t.first(x -> x.issue(0, 9));
        t.first(x -> x.ask(0, 8, 10));
        t.tells(1, x -> x.ofYear(0, 0));
        t.first(x -> x.ask(0, 1, 10));
        t.tells(0, x -> x.ofYear(0, 0));
        t.first(x -> x.takeBack(0));
        t.tells(8, x -> x.ofYear(0, 0));
    }

    private static void order() {
        says(20, "rank: a rank, from 0");
        fourOrders();
        for (int what = 0; what <= 3; what++) {
            int column = what;
            t.refused(BAD_VALUE, x -> x.order(true, -1, column));
            t.refused(BAD_VALUE, x -> x.order(false, LEAST, column));
        }
        t.tells(2, x -> x.order(true, 0, 0));
        t.tells(1, x -> x.order(false, 0, 0));
        says(20, "what: 0 for its number, 1 for its kiln, 2 for the permits that it still has, 3 for its price");
        fourOrders();
        outOf(0, 3, (x, what) -> x.order(true, 0, what));
        outOf(0, 3, (x, what) -> x.order(false, 9, what));
        int[][] told = {{2, 2, 7, 30}, {3, 3, 8, 20}};
        for (int i = 0; i <= 3; i++) {
            int what = i;
            t.tells(told[0][what], x -> x.order(true, 0, what));
            t.tells(told[1][what], x -> x.order(true, 1, what));
        }
        t.first(x -> x.ask(0, 3, 30));
        t.tells(4, x -> x.order(true, 0, 2));
        says(20, "Returns the number; BAD_VALUE (rank is negative, or what); NONE if there are not so many.");
        t.refused(NONE, x -> x.order(true, 0, 0));
        t.refused(NONE, x -> x.order(false, 0, 3));
        fourOrders();
        t.tells(3, x -> x.order(true, 1, 0));
        t.tells(0, x -> x.order(false, 1, 0));
        for (int rank : new int[] {2, 15, 16, 17, GREATEST}) {
            t.refused(NONE, x -> x.order(true, rank, 0));
            t.refused(NONE, x -> x.order(false, rank, 3));
            t.refused(BAD_VALUE, x -> x.order(false, rank, 4));
        }
        asksStand(16);
        t.tells(15, x -> x.order(false, 15, 0));
        t.refused(NONE, x -> x.order(false, 16, 0));
        says(20, "the best first: bids from the dearest, asks from the cheapest, of several those that came first.");
        bestFirst();
    }

    /** Asks at 60 and 50, and bids at 30 and 20. */
    private static void fourOrders() {
        newTown();
        t.first(x -> x.issue(0, 20));
        t.first(x -> x.ask(0, 5, 60));
        t.first(x -> x.ask(0, 6, 50));
        t.first(x -> x.bid(2, 7, 30));
        t.first(x -> x.bid(3, 8, 20));
    }

    private static void ranked(boolean bids, int... numbers) {
        for (int i = 0; i < numbers.length; i++) {
            int rank = i;
            t.tells(numbers[rank], x -> x.order(bids, rank, 0));
        }
        t.refused(NONE, x -> x.order(bids, numbers.length, 0));
    }

    private static void bestFirst() {
        t.first(x -> x.issue(0, 99));
        for (int price : new int[] {60, 61, 60, 59, 61, 60}) {
            t.first(x -> x.ask(0, 1, price));
        }
        ranked(false, 3, 0, 2, 5, 1, 4);
        for (int price : new int[] {30, 31, 30, 29, 31, 30}) {
            t.first(x -> x.bid(1, 1, price));
        }
        ranked(true, 7, 10, 6, 8, 11, 9);
        // a place that one leaves is not the next one's turn
        t.first(x -> x.takeBack(0));
        t.first(x -> x.ask(0, 1, 60));
        ranked(false, 3, 2, 5, 12, 1, 4);
        t.first(x -> x.takeBack(7));
        t.first(x -> x.bid(1, 1, 31));
        ranked(true, 10, 13, 6, 8, 11, 9);
    }

    private static void depth() {
        says(21, "price: 1 to 500");
        for (boolean buy : new boolean[] {true, false}) {
            outOf(1, 500, (x, price) -> x.depth(buy, price));
            t.tells(0, x -> x.depth(buy, 1));
            t.tells(0, x -> x.depth(buy, 500));
        }
        // also outside of the floor and the ceiling
        fourOrders();
        t.tells(11, x -> x.depth(true, 500));
        t.tells(15, x -> x.depth(false, 1));
        t.tells(0, x -> x.depth(true, 1));
        t.tells(0, x -> x.depth(false, 500));
        says(21, "how many permits could be bought at once of standing asks for a price or less");
        fourOrders();
        depths(true, 49, 0, 50, 6, 51, 6, 59, 6, 60, 11, 61, 11);
        says(21, "or sold to standing bids for a price or more");
        fourOrders();
        depths(false, 19, 15, 20, 15, 21, 7, 29, 7, 30, 7, 31, 0);
        // the edges of the prices themselves
        newTown();
        t.first(x -> x.set(FLOOR, 1));
        t.first(x -> x.set(CEILING, 500));
        t.first(x -> x.issue(0, 20));
        t.first(x -> x.ask(0, 3, 500));
        t.first(x -> x.bid(1, 4, 1));
        depths(true, 499, 0, 500, 3);
        depths(false, 1, 4, 2, 0);
        says(21, "(the reserve does not count)");
        t.tells(0, x -> x.depth(true, 100));
        t.first(x -> x.issue(0, 2));
        t.first(x -> x.ask(0, 2, 99));
        t.tells(2, x -> x.depth(true, 100));
    }

    private static void depths(boolean buy, int... pricesAndPermits) {
        for (int i = 0; i < pricesAndPermits.length; i += 2) {
            int price = pricesAndPermits[i];
            t.tells(pricesAndPermits[i + 1], x -> x.depth(buy, price));
        }
    }

    private static void count() {
        says(22, "what: 0 for the year of now");
        outOf(0, 20, KilnPermits::count);
        t.tells(0, x -> x.count(0));
        t.tells(0, x -> x.count(20));
        says(22, "1 for all permits of kilns (with those offered), 2 for permits issued so far "
            + "(without those taken off for borrowing)");
        counts(1, 5, x -> x.issue(0, 5));
        counts(2, 12, x -> x.issue(5, 7));
        counts(1, 12, x -> x.ask(0, 5, 10));
        counts(1, 12, x -> x.bid(1, 2, 10));
        counts(1, 13, x -> x.buyReserve(1, 1));
        t.tells(12, x -> x.count(2));
        owing(3);
        counts(2, 0, x -> x.issue(0, 2));
        counts(2, 1, x -> x.issue(0, 2));
        says(22, "3 for permits given at ends of years so far (without borrowed ones), "
            + "4 for borrowed ones that were given so far");
        t.first(x -> x.issue(0, 9));
        t.first(x -> x.fire(0, 10, 10));
        t.first(x -> x.borrow(0, 2));
        counts(3, 8, x -> x.endYear());
        t.tells(2, x -> x.count(4));
        t.first(x -> x.fire(0, 5, 5));
        t.first(x -> x.borrow(0, 1));
        counts(3, 9, x -> x.endYear());
        t.tells(3, x -> x.count(4));
        counts(3, 9, x -> x.endYear());
        says(22, "5 for the reserve, 6 for permits sold from it so far");
        counts(5, 498, x -> x.buyReserve(0, 2));
        t.tells(2, x -> x.count(6));
        t.tells(200, x -> x.count(13));
        t.first(x -> x.set(CEILING, 150));
        counts(13, 350, x -> x.buyReserve(1, 1));
        t.tells(3, x -> x.count(6));
        t.tells(0, x -> x.count(12));
        countsOfTheMarket();
        says(22, "11 for coins of all kilns (with those held back), 12 for coins taken at ends of years so far");
        counts(11, 6000, x -> x.bid(0, 10, 100));
        t.first(x -> x.fire(1, 11, 11));
        t.first(x -> x.fire(2, 2, 2));
        counts(12, 1200, x -> x.endYear());
        t.tells(4800, x -> x.count(11));
        counts(12, 1400, x -> x.endYear());
        says(22, "14 to 18 for the settings 0 to 4, 19 for the states in the history, 20 for the length of the text");
        counts(14, 11, x -> x.set(0, 11));
        counts(15, 101, x -> x.set(1, 101));
        counts(16, 21, x -> x.set(2, 21));
        counts(17, 12, x -> x.set(3, 12));
        t.tells(4, x -> x.count(19));
        counts(18, 4, x -> x.set(4, 4));
        t.tells(4, x -> x.count(19));
        t.done(1, x -> x.type('x'));
        t.tells(1, x -> x.count(20));
        t.done(1, x -> x.clearText());
        t.tells(0, x -> x.count(20));
    }

    private static void counts(int what, int want, ToIntFunction<KilnPermits> call) {
        t.first(call);
        t.tells(want, x -> x.count(what));
    }

    private static void countsOfTheMarket() {
        says(22, "7 for standing orders, 8 for orders so far, 9 for permits traded so far, "
            + "10 for the price of the latest trade (NONE without one)");
        t.refused(NONE, x -> x.count(10));
        t.first(x -> x.issue(0, 9));
        counts(7, 1, x -> x.ask(0, 4, 20));
        t.refused(NONE, x -> x.count(10));
        counts(7, 2, x -> x.bid(1, 2, 19));
        t.refused(NONE, x -> x.count(10));
        t.first(x -> x.buyReserve(1, 1));
        t.refused(NONE, x -> x.count(10));
        counts(10, 20, x -> x.bid(1, 3, 30));
        t.tells(2, x -> x.count(7));
        t.tells(3, x -> x.count(8));
        t.tells(3, x -> x.count(9));
        t.done(3, x -> x.undo());
        t.refused(NONE, x -> x.count(10));
        t.tells(0, x -> x.count(9));
        t.tells(2, x -> x.count(8));
        counts(9, 4, x -> x.bid(1, 5, 30));
        t.tells(2, x -> x.count(7));
        // of one call, the latest of its trades
        counts(10, 19, x -> x.ask(0, 4, 19));
        t.tells(7, x -> x.count(9));
        t.tells(1, x -> x.count(7));
        // taking back is no trade, and takes no order off those so far
        t.first(x -> x.takeBack(3));
        t.tells(0, x -> x.count(7));
        t.tells(4, x -> x.count(8));
        t.tells(19, x -> x.count(10));
    }
}
