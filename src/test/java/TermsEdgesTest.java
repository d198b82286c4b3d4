/** Each sentence under "What it is" and "Terms" that names an edge, told before its test. */
public final class TermsEdgesTest extends Edges {
    private TermsEdgesTest() {
    }

    public static void main(String[] args) {
        begin("edges of the terms");
        lastCall();
        permitsAndKilns();
        firingAndAudits();
        market();
        trades();
        room();
        reserve();
        borrowing();
        endOfYear();
        texts();
        history();
        errors();
        close();
    }

    private static void lastCall() {
        says("An object is used for at most 512 calls after it has been made");
        KilnPermits years = new KilnPermits();
        for (int call = 1; call <= 511; call++) {
            c.due(0, years.endYear());
        }
        c.due(511, years.count(0));
        KilnPermits late = new KilnPermits();
        for (int call = 1; call <= 509; call++) {
            late.endYear();
        }
        late.issue(5, 999);
        c.due(999, late.ofYear(5, 509));
        c.due(509, late.kiln(5, OLDEST));
        KilnPermits smoke = new KilnPermits();
        smoke.set(FINE, 5);
        for (int call = 1; call <= 509; call++) {
            c.due(0, smoke.fire(5, 999, 0));
        }
        c.due(508491, smoke.audit(5));
        c.due(508491 * 6, smoke.endYear());
        KilnPermits told = new KilnPermits();
        told.set(MOST_BORROWED, 100);
        told.set(INTEREST, 100);
        for (int call = 1; call <= 254; call++) {
            c.due(999 * call, told.fire(0, 999, 999));
            c.due(999 * call, told.borrow(0, 999));
        }
        c.due(0, told.endYear());
        c.due(2 * 999 * 254, told.kiln(0, OWED));
        KilnPermits issued = new KilnPermits();
        for (int call = 1; call <= 511; call++) {
            c.due(999, issued.issue(5, 999));
        }
        c.due(999 * 511, issued.kiln(5, PERMITS));
        KilnPermits orders = new KilnPermits();
        for (int call = 1; call <= 510; call++) {
            c.due(0, orders.bid(0, 1, 10));
        }
        c.due(UNKNOWN, orders.takeBack(509));
        c.due(510, orders.count(8));
        KilnPermits typed = new KilnPermits();
        for (int call = 1; call <= 512; call++) {
            c.due(call <= 60 ? call : FULL, typed.type('b'));
        }
    }

    private static void permitsAndKilns() {
        says("The year of now is 0 at first.");
        t.tells(0, x -> x.count(0));
        t.tells(0, x -> x.ofYear(0, 0));
        t.refused(BAD_VALUE, x -> x.ofYear(0, 1));
        t.done(0, x -> x.keep());

        says("There are 6 kilns, numbered from 0");
        sixKilns();

        says("each with coins (1000 at first; 0 to 999999)");
        coins();

        says("permits by the year for which they were issued");
        permitsOfManyYears();
        yearsThatComeAgain();

        says("A permit covers one unit of smoke, in the year for which it was issued, or in any later one.");
        t.act(1, x -> x.issue(0, 1));
        t.act(1, x -> x.fire(0, 1, 1));
        t.tells(0, x -> x.kiln(0, LACK));
        t.act(2, x -> x.fire(0, 1, 1));
        t.tells(1, x -> x.kiln(0, LACK));
        t.done(2, x -> x.undo());
        t.act(0, x -> x.endYear());
        t.tells(0, x -> x.kiln(0, PERMITS));
        newTown();
        t.act(2, x -> x.issue(0, 2));
        for (int year = 0; year < 100; year++) {
            t.first(x -> x.endYear());
        }
        t.act(2, x -> x.fire(0, 2, 2));
        t.tells(0, x -> x.kiln(0, LACK));
        t.act(0, x -> x.endYear());
        t.tells(0, x -> x.kiln(0, PERMITS));
        t.act(1, x -> x.fire(0, 1, 1));
        t.act(1, x -> x.endYear());

        says("Permits are issued to a kiln for the year of now.");
        t.act(5, x -> x.issue(0, 5));
        t.act(0, x -> x.endYear());
        t.act(6, x -> x.issue(0, 6));
        t.tells(5, x -> x.ofYear(0, 0));
        t.tells(6, x -> x.ofYear(0, 1));

        says("If it owes for what it borrowed last year, those are taken off first: "
            + "of the permits issued only what is left is given.");
        takenOffFirst();
    }

    private static void sixKilns() {
        OfKiln[] calls = {
            (x, kiln) -> x.issue(kiln, 1), (x, kiln) -> x.fire(kiln, 1, 1), KilnPermits::audit,
            (x, kiln) -> x.bid(kiln, 1, 10), (x, kiln) -> x.ask(kiln, 1, 100),
            (x, kiln) -> x.buyReserve(kiln, 1), (x, kiln) -> x.borrow(kiln, 1),
            (x, kiln) -> x.kiln(kiln, COINS), (x, kiln) -> x.ofYear(kiln, 0),
        };
        int[] none = {-1, 6, 7, Integer.MIN_VALUE, Integer.MAX_VALUE};
        for (OfKiln call : calls) {
            newTown();
            for (int kiln = 0; kiln < 6; kiln++) {
                int number = kiln;
                t.first(x -> x.issue(number, 3));
                t.first(x -> x.fire(number, 20, 10));
                t.first(x -> call.call(x, number));
            }
            for (int kiln : none) {
                t.refused(UNKNOWN, x -> call.call(x, kiln));
            }
        }
        for (char kiln = '0'; kiln <= '5'; kiln++) {
            newTown();
            t.type("b" + kiln + ":1@10");
            t.act(0, x -> x.orderAll());
            int number = kiln - '0';
            t.tells(number, x -> x.order(true, 0, 1));
        }
    }

    private static void coins() {
        for (int kiln = 0; kiln < 6; kiln++) {
            int number = kiln;
            t.tells(1000, x -> x.kiln(number, COINS));
        }
        t.act(0, x -> x.bid(0, 100, 10));
        t.tells(0, x -> x.kiln(0, COINS));
        t.refused(FULL, x -> x.bid(0, 1, 10));
        t.act(490, x -> x.buyReserve(1, 10));
        t.tells(0, x -> x.kiln(1, COINS));
        t.refused(FULL, x -> x.buyReserve(1, 1));
        t.act(11, x -> x.fire(2, 11, 11));
        t.act(11, x -> x.endYear());
        t.tells(0, x -> x.kiln(2, COINS));
        t.act(11, x -> x.endYear());
        t.tells(0, x -> x.kiln(2, COINS));
        newTown();
        t.act(50, x -> x.issue(0, 50));
        for (int kiln = 1; kiln < 6; kiln++) {
            int number = kiln;
            t.act(0, x -> x.bid(number, 10, 100));
        }
        t.act(50, x -> x.ask(0, 50, 10));
        t.tells(6000, x -> x.kiln(0, COINS));
        t.tells(0, x -> x.kiln(5, COINS));
        t.tells(6000, x -> x.count(11));
        t.act(0, x -> x.bid(0, 60, 100));
        t.tells(6000, x -> x.kiln(0, HELD));
    }

    private static void permitsOfManyYears() {
        for (int i = 0; i < 40; i++) {
            int year = i;
            t.act(1 + year % 3, x -> x.issue(0, 1 + year % 3));
            t.tells(1 + year % 3, x -> x.ofYear(0, year));
            t.act(0, x -> x.endYear());
        }
        for (int i = 0; i < 40; i++) {
            int year = i;
            t.tells(1 + year % 3, x -> x.ofYear(0, year));
        }
        t.tells(0, x -> x.ofYear(0, 40));
        t.tells(79, x -> x.kiln(0, PERMITS));
        // 20 years, and one permit of the two of the year 19
        t.done(40, x -> x.keep());
        t.act(0, x -> x.ask(0, 38, 20));
        t.tells(1, x -> x.ofYear(0, 19));
        t.tells(19, x -> x.kiln(0, OLDEST));
        t.act(36, x -> x.bid(1, 36, 20));
        t.tells(0, x -> x.kiln(1, OLDEST));
        t.tells(3, x -> x.ofYear(1, 17));
        t.tells(0, x -> x.ofYear(1, 18));
        t.act(36, x -> x.fire(1, 36, 36));
        t.act(0, x -> x.endYear());
        t.refused(NONE, x -> x.kiln(1, OLDEST));
        t.act(2, x -> x.takeBack(0));
        t.tells(1, x -> x.ofYear(0, 18));
        t.tells(2, x -> x.ofYear(0, 19));
        t.act(40, x -> x.restore());
        t.tells(79, x -> x.kiln(0, PERMITS));
        t.tells(1, x -> x.ofYear(0, 39));
    }

    /** What was issued in years that were undone or left by restore() does not come again with them. */
    private static void yearsThatComeAgain() {
        newTown();
        t.first(x -> x.issue(0, 3));
        t.first(x -> x.keep());
        for (int year = 0; year < 12; year++) {
            t.first(x -> x.endYear());
            t.first(x -> x.issue(0, 5));
        }
        t.act(0, x -> x.restore());
        for (int year = 0; year < 14; year++) {
            t.first(x -> x.endYear());
        }
        t.act(2, x -> x.issue(0, 2));
        t.tells(3, x -> x.ofYear(0, 0));
        for (int i = 1; i <= 13; i++) {
            int year = i;
            t.tells(0, x -> x.ofYear(0, year));
        }
        t.tells(2, x -> x.ofYear(0, 14));
        t.tells(5, x -> x.kiln(0, PERMITS));
        t.act(5, x -> x.fire(0, 5, 5));
        t.act(0, x -> x.endYear());
        t.act(1, x -> x.fire(0, 1, 1));
        t.act(1, x -> x.endYear());
        newTown();
        for (int year = 0; year < 3; year++) {
            t.first(x -> x.issue(0, 5));
            t.first(x -> x.endYear());
        }
        for (int left = 3; left >= 0; left--) {
            t.first(x -> x.undo());
        }
        t.tells(1, x -> x.count(0));
        t.act(0, x -> x.endYear());
        t.act(1, x -> x.issue(0, 1));
        t.tells(5, x -> x.ofYear(0, 0));
        t.tells(0, x -> x.ofYear(0, 1));
        t.tells(1, x -> x.ofYear(0, 2));
    }

    private static void takenOffFirst() {
        owing(3);
        t.act(0, x -> x.issue(0, 2));
        t.tells(1, x -> x.kiln(0, OWED));
        t.tells(0, x -> x.kiln(0, PERMITS));
        t.act(0, x -> x.issue(0, 1));
        t.tells(0, x -> x.kiln(0, OWED));
        t.tells(0, x -> x.kiln(0, PERMITS));
        t.act(1, x -> x.issue(0, 1));
        t.tells(1, x -> x.kiln(0, PERMITS));
        owing(3);
        t.act(0, x -> x.issue(0, 3));
        t.tells(0, x -> x.kiln(0, OWED));
        t.tells(0, x -> x.kiln(0, PERMITS));
        t.refused(NONE, x -> x.kiln(0, OLDEST));
        owing(3);
        t.act(1, x -> x.issue(0, 4));
        t.tells(0, x -> x.kiln(0, OWED));
        t.tells(1, x -> x.kiln(0, PERMITS));
        owing(3);
        t.act(996, x -> x.issue(0, 999));
        owing(999);
        t.act(0, x -> x.issue(0, 998));
        t.act(1, x -> x.issue(0, 2));
        // what another kiln is issued is not taken off
        owing(3);
        t.act(2, x -> x.issue(1, 2));
        t.tells(3, x -> x.kiln(0, OWED));
        // nor what is issued in the year of the borrowing, but what is issued in any later one
        newTown();
        t.first(x -> x.fire(0, 10, 10));
        t.act(2, x -> x.borrow(0, 2));
        t.act(8, x -> x.issue(0, 8));
        t.tells(0, x -> x.kiln(0, OWED));
        t.act(0, x -> x.endYear());
        t.act(0, x -> x.endYear());
        t.act(0, x -> x.endYear());
        t.act(0, x -> x.issue(0, 2));
        t.act(1, x -> x.issue(0, 2));
        // what it buys is not issued: nothing is taken off it
        owing(3);
        t.act(498, x -> x.buyReserve(0, 2));
        t.tells(3, x -> x.kiln(0, OWED));
        t.tells(2, x -> x.kiln(0, PERMITS));
    }

    private static void firingAndAudits() {
        says("A kiln that fires makes smoke, and tells as much or less.");
        t.act(0, x -> x.fire(0, 1, 0));
        t.act(1, x -> x.fire(0, 1, 1));
        t.refused(BAD_VALUE, x -> x.fire(0, 1, 2));
        t.act(8, x -> x.fire(0, 8, 7));
        t.refused(BAD_VALUE, x -> x.fire(0, 8, 9));
        t.act(1007, x -> x.fire(0, 999, 999));
        t.refused(BAD_VALUE, x -> x.fire(0, 999, 1000));
        t.tells(1009, x -> x.kiln(0, SMOKE));
        t.tells(1007, x -> x.kiln(0, TOLD));

        says("An audit of a kiln finds the smoke that was not told this year: it is told then");
        t.refused(NONE, x -> x.audit(0));
        t.act(4, x -> x.fire(0, 5, 4));
        t.act(1, x -> x.audit(0));
        t.tells(5, x -> x.kiln(0, TOLD));
        t.tells(5, x -> x.kiln(0, SMOKE));
        t.refused(NONE, x -> x.audit(0));
        t.act(5, x -> x.fire(0, 999, 0));
        t.act(999, x -> x.audit(0));
        t.refused(NONE, x -> x.audit(0));
        t.act(3, x -> x.fire(1, 3, 3));
        t.refused(NONE, x -> x.audit(1));
        t.act(0, x -> x.fire(2, 3, 0));
        t.first(x -> x.endYear());
        t.refused(NONE, x -> x.audit(2));
        t.act(0, x -> x.fire(2, 1, 0));
        t.act(1, x -> x.audit(2));

        says("as a fine permits are to be given, the setting 4 times as many as units were found");
        t.act(0, x -> x.fire(0, 7, 0));
        t.act(7, x -> x.audit(0));
        t.tells(21, x -> x.kiln(0, FINES));
        t.tells(28, x -> x.kiln(0, LACK));
        t.act(3, x -> x.set(FINE, 1));
        t.tells(21, x -> x.kiln(0, FINES));
        t.act(7, x -> x.fire(0, 1, 0));
        t.act(1, x -> x.audit(0));
        t.tells(22, x -> x.kiln(0, FINES));
        t.act(1, x -> x.set(FINE, 5));
        t.act(8, x -> x.fire(0, 2, 0));
        t.act(2, x -> x.audit(0));
        t.tells(32, x -> x.kiln(0, FINES));
        t.act(42, x -> x.endYear());
    }

    private static void setting(int which, int first, int least, int most) {
        newTown();
        t.tells(first, x -> x.count(14 + which));
        t.refused(NONE, x -> x.set(which, first));
        t.refused(BAD_VALUE, x -> x.set(which, least - 1));
        t.refused(BAD_VALUE, x -> x.set(which, most + 1));
        t.act(first, x -> x.set(which, most));
        t.tells(most, x -> x.count(14 + which));
        t.refused(NONE, x -> x.set(which, most));
        t.refused(BAD_VALUE, x -> x.set(which, most + 1));
        t.act(most, x -> x.set(which, most - 1));
        t.act(most - 1, x -> x.set(which, least + 1));
        t.act(least + 1, x -> x.set(which, least));
        t.tells(least, x -> x.count(14 + which));
        t.refused(NONE, x -> x.set(which, least));
        t.refused(BAD_VALUE, x -> x.set(which, least - 1));
    }

    private static void market() {
        says("0 the floor (1 to 99; 10)");
        setting(FLOOR, 10, 1, 99);
        says("1 the ceiling (100 to 500; 100)");
        newTown();
        t.tells(100, x -> x.count(15));
        t.refused(NONE, x -> x.set(CEILING, 100));
        t.refused(BAD_VALUE, x -> x.set(CEILING, 99));
        t.refused(BAD_VALUE, x -> x.set(CEILING, 501));
        t.act(100, x -> x.set(CEILING, 500));
        t.refused(BAD_VALUE, x -> x.set(CEILING, 501));
        t.act(500, x -> x.set(CEILING, 499));
        t.act(499, x -> x.set(CEILING, 101));
        t.act(101, x -> x.set(CEILING, 100));
        t.refused(NONE, x -> x.set(CEILING, 100));
        says("2 the most that is borrowed, in hundredths of the smoke told (0 to 100; 20)");
        setting(MOST_BORROWED, 20, 0, 100);
        says("3 the interest in hundredths (0 to 100; 10)");
        setting(INTEREST, 10, 0, 100);
        says("4 the fine (1 to 5; 3)");
        setting(FINE, 3, 1, 5);

        says("some permits (1 to 999)");
        t.first(x -> x.set(FLOOR, 1));
        t.first(x -> x.issue(1, 999));
        t.first(x -> x.issue(1, 999));
        for (int wrong : new int[] {0, -1, 1000, Integer.MIN_VALUE, Integer.MAX_VALUE}) {
            t.refused(BAD_VALUE, x -> x.bid(0, wrong, 1));
            t.refused(BAD_VALUE, x -> x.ask(1, wrong, 100));
        }
        t.act(0, x -> x.bid(0, 999, 1));
        t.act(0, x -> x.bid(0, 1, 1));
        t.act(0, x -> x.ask(1, 999, 100));
        t.act(0, x -> x.ask(1, 1, 100));

        says("prices are from the floor to the ceiling");
        pricesFrom(10, 100);
        t.act(10, x -> x.set(FLOOR, 1));
        pricesFrom(1, 100);
        newTown();
        t.act(10, x -> x.set(FLOOR, 99));
        pricesFrom(99, 100);
        newTown();
        t.act(100, x -> x.set(CEILING, 500));
        pricesFrom(10, 500);

        says("What a bid would cost (permits * price) is taken from the coins as long as it stands");
        t.refused(FULL, x -> x.bid(0, 77, 13));
        t.refused(FULL, x -> x.bid(0, 11, 91));
        t.act(0, x -> x.bid(0, 37, 27));
        t.tells(1, x -> x.kiln(0, COINS));
        t.tells(999, x -> x.kiln(0, HELD));
        t.act(37, x -> x.takeBack(0));
        t.tells(1000, x -> x.kiln(0, COINS));
        t.tells(0, x -> x.kiln(0, HELD));
        t.act(0, x -> x.bid(0, 40, 25));
        t.tells(0, x -> x.kiln(0, COINS));
        t.tells(1000, x -> x.kiln(0, HELD));
        t.refused(FULL, x -> x.bid(0, 1, 10));
        t.act(3, x -> x.issue(1, 3));
        t.act(3, x -> x.ask(1, 3, 25));
        t.tells(925, x -> x.kiln(0, HELD));
        t.tells(0, x -> x.kiln(0, COINS));

        says("what an ask offers is taken from the kiln's permits when it comes, the oldest first");
        offersTheOldest();
    }

    private static void pricesFrom(int floor, int ceiling) {
        t.first(x -> x.issue(1, 9));
        t.refused(BAD_VALUE, x -> x.bid(0, 1, floor - 1));
        t.refused(BAD_VALUE, x -> x.bid(0, 1, ceiling + 1));
        t.refused(BAD_VALUE, x -> x.ask(1, 1, floor - 1));
        t.refused(BAD_VALUE, x -> x.ask(1, 1, ceiling + 1));
        t.act(0, x -> x.bid(0, 1, floor));
        t.act(1, x -> x.ask(1, 1, floor));
        t.act(0, x -> x.ask(1, 1, ceiling));
        t.act(1, x -> x.bid(0, 1, ceiling));
    }

    private static void ask(int permits, int ofFirstYear, int ofSecondYear) {
        newTown();
        t.first(x -> x.issue(0, 3));
        t.first(x -> x.endYear());
        t.first(x -> x.issue(0, 4));
        t.act(0, x -> x.ask(0, permits, 50));
        t.tells(ofFirstYear, x -> x.ofYear(0, 0));
        t.tells(ofSecondYear, x -> x.ofYear(0, 1));
        t.tells(7 - permits, x -> x.kiln(0, PERMITS));
        t.tells(permits, x -> x.kiln(0, OFFERED));
        t.tells(7, x -> x.count(1));
        t.refused(FULL, x -> x.ask(0, 8 - permits, 50));
    }

    private static void offersTheOldest() {
        ask(1, 2, 4);
        ask(2, 1, 4);
        ask(3, 0, 4);
        t.tells(1, x -> x.kiln(0, OLDEST));
        ask(4, 0, 3);
        ask(6, 0, 1);
        ask(7, 0, 0);
        t.refused(NONE, x -> x.kiln(0, OLDEST));
        t.act(7, x -> x.takeBack(0));
        t.tells(3, x -> x.ofYear(0, 0));
        t.tells(4, x -> x.ofYear(0, 1));
        t.refused(FULL, x -> x.ask(0, 8, 50));
        t.act(0, x -> x.ask(0, 7, 50));
    }

    private static void trades() {
        says("as long as it is not filled and prices let it");
        notFilledAndPrices();

        says("a bid with asks whose price is at most its own, the cheapest first");
        t.first(x -> x.issue(0, 30));
        t.first(x -> x.ask(0, 1, 52));
        t.first(x -> x.ask(0, 1, 50));
        t.first(x -> x.ask(0, 1, 51));
        t.act(0, x -> x.bid(1, 1, 49));
        t.act(1, x -> x.bid(1, 1, 52));
        t.tells(50, x -> x.count(10));
        t.act(1, x -> x.bid(1, 2, 51));
        t.tells(51, x -> x.count(10));
        t.act(1, x -> x.bid(1, 1, 52));
        t.tells(52, x -> x.count(10));

        says("an ask with bids whose price is at least its own, the dearest first");
        t.first(x -> x.issue(0, 30));
        t.first(x -> x.bid(1, 1, 50));
        t.first(x -> x.bid(2, 1, 52));
        t.first(x -> x.bid(3, 1, 51));
        t.act(0, x -> x.ask(0, 1, 53));
        t.act(1, x -> x.ask(0, 1, 50));
        t.tells(52, x -> x.count(10));
        t.act(1, x -> x.ask(0, 2, 51));
        t.tells(51, x -> x.count(10));
        t.act(1, x -> x.ask(0, 1, 50));
        t.tells(50, x -> x.count(10));

        says("of several those that came first");
        theFirstOfSeveral();

        says("(Orders of the same kiln, too.)");
        t.act(5, x -> x.issue(0, 5));
        t.act(0, x -> x.ask(0, 5, 100));
        t.act(5, x -> x.bid(0, 5, 100));
        t.tells(1000, x -> x.kiln(0, COINS));
        t.tells(5, x -> x.kiln(0, PERMITS));
        t.tells(5, x -> x.count(9));
        t.tells(0, x -> x.count(7));
        t.act(0, x -> x.bid(0, 5, 100));
        t.act(5, x -> x.ask(0, 5, 10));
        t.tells(1000, x -> x.kiln(0, COINS));
        t.tells(100, x -> x.count(10));

        says("Each trade is of as many permits as both still have");
        trade(4, 5, 4, 0, 1);
        trade(5, 5, 5, 0, 0);
        trade(6, 5, 5, 1, 0);
        trade(1, 1, 1, 0, 0);
        trade(1, 20, 1, 0, 19);
        trade(20, 1, 1, 19, 0);

        says("at the price of the one that stood");
        t.first(x -> x.issue(0, 5));
        t.act(0, x -> x.ask(0, 1, 10));
        t.act(1, x -> x.bid(1, 1, 100));
        t.tells(10, x -> x.count(10));
        t.tells(990, x -> x.kiln(1, COINS));
        t.tells(1010, x -> x.kiln(0, COINS));
        t.act(0, x -> x.bid(1, 1, 100));
        t.act(1, x -> x.ask(0, 1, 10));
        t.tells(100, x -> x.count(10));
        t.tells(890, x -> x.kiln(1, COINS));
        t.tells(1110, x -> x.kiln(0, COINS));

        says("the seller gets the coins, the buyer the permits (the oldest of those offered first)");
        oldestOfThoseOffered();

        says("what the bid held back more than that for them comes back to its kiln");
        t.first(x -> x.issue(0, 5));
        t.act(0, x -> x.ask(0, 3, 99));
        t.act(3, x -> x.bid(1, 10, 100));
        t.tells(700, x -> x.kiln(1, HELD));
        t.tells(3, x -> x.kiln(1, COINS));
        t.act(7, x -> x.takeBack(1));
        t.tells(703, x -> x.kiln(1, COINS));
        t.act(0, x -> x.ask(0, 2, 50));
        t.act(2, x -> x.bid(2, 2, 50));
        t.tells(900, x -> x.kiln(2, COINS));
    }

    private static void notFilledAndPrices() {
        t.first(x -> x.issue(0, 30));
        t.first(x -> x.ask(0, 5, 20));
        t.first(x -> x.ask(0, 5, 30));
        t.act(5, x -> x.bid(1, 5, 30));
        t.tells(5, x -> x.order(false, 0, 2));
        t.tells(900, x -> x.kiln(1, COINS));
        t.act(0, x -> x.bid(1, 1, 29));
        t.act(5, x -> x.bid(1, 6, 30));
        t.tells(1, x -> x.order(true, 0, 2));
        newTown();
        t.first(x -> x.issue(0, 30));
        t.first(x -> x.ask(0, 5, 20));
        t.first(x -> x.ask(0, 5, 30));
        t.act(6, x -> x.bid(1, 6, 30));
        t.tells(4, x -> x.order(false, 0, 2));
        t.tells(1000 - 5 * 20 - 30, x -> x.kiln(1, COINS));
        newTown();
        t.first(x -> x.issue(0, 30));
        t.first(x -> x.ask(0, 5, 20));
        t.first(x -> x.ask(0, 5, 30));
        t.act(5, x -> x.bid(1, 6, 29));
        t.tells(1, x -> x.order(true, 0, 2));
        t.tells(5, x -> x.order(false, 0, 2));
        newTown();
        t.first(x -> x.issue(0, 30));
        t.first(x -> x.bid(1, 5, 30));
        t.first(x -> x.bid(2, 5, 20));
        t.act(5, x -> x.ask(0, 5, 10));
        t.tells(5, x -> x.order(true, 0, 2));
        t.tells(1, x -> x.count(7));
        t.act(0, x -> x.ask(0, 6, 21));
        t.act(5, x -> x.ask(0, 6, 20));
        t.tells(1, x -> x.order(false, 0, 2));
    }

    private static void theFirstOfSeveral() {
        t.first(x -> x.issue(0, 30));
        t.first(x -> x.issue(1, 30));
        t.first(x -> x.ask(0, 2, 50));
        t.first(x -> x.ask(1, 2, 50));
        t.act(1, x -> x.bid(2, 1, 50));
        t.tells(1050, x -> x.kiln(0, COINS));
        // the one that trades in part keeps its turn
        t.act(2, x -> x.bid(2, 2, 50));
        t.tells(1100, x -> x.kiln(0, COINS));
        t.tells(1050, x -> x.kiln(1, COINS));
        newTown();
        t.first(x -> x.issue(0, 30));
        t.first(x -> x.bid(1, 2, 50));
        t.first(x -> x.bid(2, 2, 50));
        t.act(1, x -> x.ask(0, 1, 50));
        t.tells(1, x -> x.kiln(1, PERMITS));
        t.act(2, x -> x.ask(0, 2, 50));
        t.tells(2, x -> x.kiln(1, PERMITS));
        t.tells(1, x -> x.kiln(2, PERMITS));
        // one that came when another had gone came later all the same
        newTown();
        t.first(x -> x.issue(0, 30));
        t.first(x -> x.bid(1, 1, 60));
        t.first(x -> x.bid(2, 1, 50));
        t.first(x -> x.takeBack(0));
        t.first(x -> x.bid(3, 1, 50));
        t.act(1, x -> x.ask(0, 1, 50));
        t.tells(1, x -> x.kiln(2, PERMITS));
        t.tells(0, x -> x.kiln(3, PERMITS));
    }

    private static void trade(int bid, int ask, int traded, int leftOfBid, int leftOfAsk) {
        newTown();
        t.first(x -> x.issue(0, 20));
        t.act(0, x -> x.ask(0, ask, 50));
        t.act(traded, x -> x.bid(1, bid, 50));
        tradedAre(traded, leftOfBid, leftOfAsk);
        newTown();
        t.first(x -> x.issue(0, 20));
        t.act(0, x -> x.bid(1, bid, 50));
        t.act(traded, x -> x.ask(0, ask, 50));
        tradedAre(traded, leftOfBid, leftOfAsk);
    }

    private static void tradedAre(int traded, int leftOfBid, int leftOfAsk) {
        t.tells(leftOfBid == 0 ? NONE : leftOfBid, x -> x.order(true, 0, 2));
        t.tells(leftOfAsk == 0 ? NONE : leftOfAsk, x -> x.order(false, 0, 2));
        t.tells(traded, x -> x.count(9));
        t.tells(traded, x -> x.kiln(1, PERMITS));
        t.tells(1000 + 50 * traded, x -> x.kiln(0, COINS));
        t.tells(50 * leftOfBid, x -> x.kiln(1, HELD));
        t.tells(leftOfAsk, x -> x.kiln(0, OFFERED));
    }

    private static void oldestOfThoseOffered() {
        t.first(x -> x.issue(0, 2));
        t.first(x -> x.endYear());
        t.first(x -> x.issue(0, 3));
        t.first(x -> x.endYear());
        t.first(x -> x.ask(0, 4, 20));
        t.act(2, x -> x.bid(1, 2, 20));
        t.tells(2, x -> x.ofYear(1, 0));
        t.tells(0, x -> x.ofYear(1, 1));
        t.act(1, x -> x.bid(2, 1, 20));
        t.tells(0, x -> x.ofYear(2, 0));
        t.tells(1, x -> x.ofYear(2, 1));
        t.tells(0, x -> x.ofYear(2, 2));
        t.tells(1060, x -> x.kiln(0, COINS));
        // what stays with the ask is the newest
        t.act(1, x -> x.takeBack(0));
        t.tells(2, x -> x.ofYear(0, 1));
        newTown();
        t.first(x -> x.issue(0, 2));
        t.first(x -> x.endYear());
        t.first(x -> x.issue(0, 3));
        t.first(x -> x.bid(1, 3, 20));
        t.act(3, x -> x.ask(0, 5, 20));
        t.tells(2, x -> x.ofYear(1, 0));
        t.tells(1, x -> x.ofYear(1, 1));
        t.act(2, x -> x.takeBack(1));
        t.tells(2, x -> x.ofYear(0, 1));
    }

    private static void room() {
        says("At most 16 orders stand in the market.");
        asksStand(15);
        t.act(0, x -> x.bid(1, 1, 49));
        t.tells(16, x -> x.count(7));
        t.tells(15, x -> x.order(true, 0, 0));
        t.act(0, x -> x.bid(1, 1, 49));
        t.tells(16, x -> x.count(7));
        t.refused(NONE, x -> x.order(true, 1, 0));
        asksStand(15);
        t.act(0, x -> x.ask(0, 1, 50));
        t.tells(16, x -> x.count(7));
        t.tells(15, x -> x.order(false, 15, 0));
        t.act(0, x -> x.ask(0, 1, 50));
        t.tells(16, x -> x.count(7));
        t.refused(NONE, x -> x.order(false, 16, 0));
        t.act(1, x -> x.takeBack(3));
        t.tells(15, x -> x.count(7));
        t.act(0, x -> x.ask(0, 1, 50));
        t.tells(16, x -> x.count(7));
        t.tells(17, x -> x.order(false, 15, 0));

        says("What is left of the order then stands, if there is room; if not, it is given back.");
        asksStand(16);
        t.act(0, x -> x.bid(1, 20, 49));
        t.tells(1000, x -> x.kiln(1, COINS));
        t.tells(0, x -> x.kiln(1, HELD));
        t.refused(UNKNOWN, x -> x.takeBack(16));
        t.tells(17, x -> x.count(8));
        t.act(0, x -> x.ask(0, 84, 10));
        t.tells(84, x -> x.kiln(0, PERMITS));
        t.tells(16, x -> x.kiln(0, OFFERED));
        t.refused(UNKNOWN, x -> x.takeBack(17));
        // the one that meets an order fills it: there is room
        t.act(1, x -> x.bid(1, 1, 50));
        t.tells(15, x -> x.count(7));
        t.act(0, x -> x.ask(0, 1, 60));
        t.act(15, x -> x.bid(1, 17, 50));
        t.tells(2, x -> x.count(7));
        t.tells(2, x -> x.order(true, 0, 2));
        leftIsGivenBack();
    }

    private static void leftIsGivenBack() {
        // the order that stood is not filled, and the one that came is: nothing is left
        newTown();
        t.first(x -> x.issue(0, 100));
        t.first(x -> x.ask(0, 9, 40));
        for (int i = 0; i < 15; i++) {
            t.first(x -> x.bid(1, 1, 30));
        }
        t.act(4, x -> x.bid(2, 4, 40));
        t.tells(16, x -> x.count(7));
        t.tells(5, x -> x.order(false, 0, 2));
        // the one that stood is filled: what is left has its room
        t.act(5, x -> x.bid(2, 6, 40));
        t.tells(16, x -> x.count(7));
        t.tells(1, x -> x.order(true, 0, 2));
        t.tells(17, x -> x.order(true, 0, 0));
        // permits that are given back are of the years of which they were
        newTown();
        t.first(x -> x.issue(0, 1));
        t.first(x -> x.endYear());
        t.first(x -> x.issue(0, 2));
        for (int i = 0; i < 16; i++) {
            t.first(x -> x.bid(1, 1, 30));
        }
        t.act(0, x -> x.ask(0, 2, 31));
        t.tells(1, x -> x.ofYear(0, 0));
        t.tells(2, x -> x.ofYear(0, 1));
    }

    private static void reserve() {
        says("The town has a reserve of 500 permits at first, which it sells at the ceiling");
        t.tells(500, x -> x.count(5));
        t.tells(0, x -> x.count(6));
        t.act(499, x -> x.buyReserve(0, 1));
        t.tells(900, x -> x.kiln(0, COINS));
        t.refused(FULL, x -> x.buyReserve(0, 10));
        t.act(490, x -> x.buyReserve(0, 9));
        t.tells(0, x -> x.kiln(0, COINS));
        t.first(x -> x.set(CEILING, 500));
        t.refused(FULL, x -> x.buyReserve(1, 3));
        t.act(488, x -> x.buyReserve(1, 2));
        t.tells(0, x -> x.kiln(1, COINS));
        t.refused(FULL, x -> x.buyReserve(2, 500));
        t.refused(FULL, x -> x.buyReserve(2, 501));

        says("they are of the year of now");
        t.first(x -> x.endYear());
        t.first(x -> x.endYear());
        t.act(497, x -> x.buyReserve(0, 3));
        t.tells(0, x -> x.ofYear(0, 0));
        t.tells(0, x -> x.ofYear(0, 1));
        t.tells(3, x -> x.ofYear(0, 2));
        t.tells(2, x -> x.kiln(0, OLDEST));
    }

    /** At this setting, a kiln that told so much may borrow so many, and no more. */
    private static void borrowsAtMost(int told, int setting, int most) {
        newTown();
        t.first(x -> x.set(MOST_BORROWED, 50));
        t.first(x -> x.set(MOST_BORROWED, setting));
        t.first(x -> x.fire(0, 999, told));
        if (most < 999) {
            t.refused(FULL, x -> x.borrow(0, most + 1));
        }
        if (most > 0) {
            t.act(most, x -> x.borrow(0, most));
        }
        t.refused(FULL, x -> x.borrow(0, 1));
        t.tells(most, x -> x.kiln(0, BORROWED));
    }

    /** Who borrows so many at this interest owes so many then. */
    private static void interest(int borrowed, int setting, int owed) {
        newTown();
        t.first(x -> x.set(MOST_BORROWED, 100));
        t.first(x -> x.set(INTEREST, 50));
        t.first(x -> x.set(INTEREST, setting));
        t.first(x -> x.fire(0, borrowed, borrowed));
        t.act(borrowed, x -> x.borrow(0, borrowed));
        t.tells(0, x -> x.kiln(0, OWED));
        t.act(0, x -> x.endYear());
        t.tells(owed, x -> x.kiln(0, OWED));
    }

    private static void borrowing() {
        says("this year together at most the smoke told * the setting 2 / 100, rounded down");
        borrowsAtMost(0, 100, 0);
        borrowsAtMost(4, 20, 0);
        borrowsAtMost(5, 20, 1);
        borrowsAtMost(9, 20, 1);
        borrowsAtMost(10, 20, 2);
        borrowsAtMost(1, 99, 0);
        borrowsAtMost(1, 100, 1);
        borrowsAtMost(99, 1, 0);
        borrowsAtMost(100, 1, 1);
        borrowsAtMost(199, 1, 1);
        borrowsAtMost(200, 1, 2);
        borrowsAtMost(999, 0, 0);
        borrowsAtMost(998, 100, 998);
        borrowsAtMost(999, 100, 999);
        borrowedTogether();

        says("it owes what it borrowed and interest: borrowed * (100 + the setting 3) / 100, rounded up");
        interest(1, 10, 2);
        interest(9, 10, 10);
        interest(10, 10, 11);
        interest(11, 10, 13);
        interest(5, 0, 5);
        interest(5, 100, 10);
        interest(99, 1, 100);
        interest(100, 1, 101);
        interest(101, 1, 103);
        interest(1, 99, 2);
        interest(100, 99, 199);
        interest(999, 0, 999);
        interest(999, 1, 1009);
        interest(999, 100, 1998);
        // of what was borrowed together, not of each time
        newTown();
        t.first(x -> x.fire(0, 50, 50));
        for (int i = 1; i <= 10; i++) {
            int together = i;
            t.act(together, x -> x.borrow(0, 1));
        }
        t.first(x -> x.endYear());
        t.tells(11, x -> x.kiln(0, OWED));
    }

    private static void borrowedTogether() {
        newTown();
        t.first(x -> x.fire(0, 10, 5));
        t.act(1, x -> x.borrow(0, 1));
        t.refused(FULL, x -> x.borrow(0, 1));
        t.first(x -> x.fire(0, 10, 4));
        t.refused(FULL, x -> x.borrow(0, 1));
        t.first(x -> x.fire(0, 10, 1));
        t.refused(FULL, x -> x.borrow(0, 2));
        t.act(2, x -> x.borrow(0, 1));
        // smoke that an audit found was told
        t.act(20, x -> x.audit(0));
        t.refused(FULL, x -> x.borrow(0, 5));
        t.act(6, x -> x.borrow(0, 4));
        // a setting that is less leaves what was borrowed
        t.act(20, x -> x.set(MOST_BORROWED, 0));
        t.tells(6, x -> x.kiln(0, BORROWED));
        t.refused(FULL, x -> x.borrow(0, 1));
        // of a year alone
        t.act(0, x -> x.set(MOST_BORROWED, 20));
        t.first(x -> x.endYear());
        t.refused(FULL, x -> x.borrow(0, 1));
        t.first(x -> x.fire(0, 5, 5));
        t.act(1, x -> x.borrow(0, 1));
    }

    /** Kiln 0 has to give 15: 5 told, 6 as fines, 4 of its debt; it has 600 coins. */
    private static void hasToGiveFifteen() {
        newTown();
        t.first(x -> x.fire(0, 4, 4));
        t.act(4, x -> x.endYear());
        t.tells(600, x -> x.kiln(0, COINS));
        t.first(x -> x.fire(0, 5, 3));
        t.act(2, x -> x.audit(0));
        t.tells(15, x -> x.kiln(0, LACK));
    }

    private static void endOfYear() {
        says("it has to give as many permits as its smoke told, its fines and its debt together");
        hasToGiveFifteen();
        t.act(14, x -> x.issue(0, 14));
        t.act(1, x -> x.endYear());
        t.tells(0, x -> x.kiln(0, PERMITS));
        hasToGiveFifteen();
        t.act(15, x -> x.issue(0, 15));
        t.act(0, x -> x.endYear());
        t.tells(0, x -> x.kiln(0, PERMITS));
        t.tells(15, x -> x.count(3));
        hasToGiveFifteen();
        t.act(16, x -> x.issue(0, 16));
        t.act(0, x -> x.endYear());
        t.tells(1, x -> x.kiln(0, PERMITS));
        t.tells(15, x -> x.count(3));

        says("Borrowed ones are given first (those that are not needed are gone, but owed)");
        borrowedFirst();

        says("then its own, the oldest first");
        gives(2, 1, 4);
        gives(3, 0, 4);
        gives(4, 0, 3);
        gives(7, 0, 0);

        says("What lacks is its debt then (0 if nothing lacks)");
        t.first(x -> x.fire(0, 3, 3));
        t.act(3, x -> x.endYear());
        t.tells(3, x -> x.kiln(0, DEBT));
        t.act(2, x -> x.issue(0, 2));
        t.act(1, x -> x.endYear());
        t.tells(1, x -> x.kiln(0, DEBT));
        t.act(1, x -> x.issue(0, 1));
        t.act(0, x -> x.endYear());
        t.tells(0, x -> x.kiln(0, DEBT));
        t.act(2, x -> x.issue(0, 2));
        t.act(0, x -> x.endYear());
        t.tells(0, x -> x.kiln(0, DEBT));
        t.tells(2, x -> x.kiln(0, PERMITS));

        says("for each of these the ceiling is taken from its coins, or all its coins, if they are fewer than that");
        lacks(100, 1, 900);
        lacks(100, 9, 100);
        lacks(100, 10, 0);
        lacks(100, 11, 0);
        lacks(100, 999, 0);
        lacks(500, 1, 500);
        lacks(500, 2, 0);
        lacks(500, 3, 0);
        lacks(333, 3, 1);
        lacks(334, 3, 0);
        lacks(250, 4, 0);
        lacks(249, 4, 4);
        coinsHeldBackAreNotTaken();

        says("Then what it owes for borrowing is added to what it owes already");
        t.first(x -> x.set(INTEREST, 0));
        t.first(x -> x.fire(0, 10, 10));
        t.first(x -> x.borrow(0, 2));
        t.first(x -> x.endYear());
        t.tells(2, x -> x.kiln(0, OWED));
        t.first(x -> x.endYear());
        t.tells(2, x -> x.kiln(0, OWED));
        t.first(x -> x.fire(0, 5, 5));
        t.first(x -> x.borrow(0, 1));
        t.first(x -> x.endYear());
        t.tells(3, x -> x.kiln(0, OWED));

        says("smoke, smoke told, borrowed ones and fines are 0");
        t.first(x -> x.fire(3, 9, 5));
        t.first(x -> x.borrow(3, 1));
        t.first(x -> x.audit(3));
        t.first(x -> x.fire(3, 7, 1));
        t.first(x -> x.endYear());
        for (int what : new int[] {SMOKE, TOLD, BORROWED, FINES}) {
            t.tells(0, x -> x.kiln(3, what));
        }

        says("Standing orders stay. Then the year of now is 1 more.");
        standingOrdersStay();
    }

    private static void borrowedFirst() {
        t.first(x -> x.issue(0, 9));
        t.first(x -> x.fire(0, 10, 10));
        t.first(x -> x.borrow(0, 2));
        t.tells(0, x -> x.kiln(0, LACK));
        t.act(0, x -> x.endYear());
        t.tells(1, x -> x.kiln(0, PERMITS));
        t.tells(8, x -> x.count(3));
        t.tells(2, x -> x.count(4));
        // all that is told is borrowed: none of its own are given
        newTown();
        t.first(x -> x.set(MOST_BORROWED, 100));
        t.first(x -> x.issue(0, 1));
        t.first(x -> x.fire(0, 10, 10));
        t.first(x -> x.borrow(0, 10));
        t.act(0, x -> x.endYear());
        t.tells(1, x -> x.kiln(0, PERMITS));
        t.tells(0, x -> x.count(3));
        t.tells(10, x -> x.count(4));
        t.tells(11, x -> x.kiln(0, OWED));
        // one less, and one of its own is
        newTown();
        t.first(x -> x.set(MOST_BORROWED, 100));
        t.first(x -> x.issue(0, 1));
        t.first(x -> x.fire(0, 10, 10));
        t.first(x -> x.borrow(0, 9));
        t.act(0, x -> x.endYear());
        t.tells(0, x -> x.kiln(0, PERMITS));
        t.tells(1, x -> x.count(3));
        t.tells(9, x -> x.count(4));
    }

    /** Of 3 permits of the year 0 and 4 of the year 1, so many are given. */
    private static void gives(int given, int ofFirstYear, int ofSecondYear) {
        newTown();
        t.first(x -> x.issue(0, 3));
        t.first(x -> x.endYear());
        t.first(x -> x.issue(0, 4));
        t.first(x -> x.fire(0, given, given));
        t.act(0, x -> x.endYear());
        t.tells(ofFirstYear, x -> x.ofYear(0, 0));
        t.tells(ofSecondYear, x -> x.ofYear(0, 1));
        t.tells(given, x -> x.count(3));
        int oldest = ofFirstYear > 0 ? 0 : ofSecondYear > 0 ? 1 : NONE;
        t.tells(oldest, x -> x.kiln(0, OLDEST));
    }

    /** At this ceiling, so many coins of 1000 are left to a kiln that lacks so many permits. */
    private static void lacks(int ceiling, int permits, int coins) {
        newTown();
        t.first(x -> x.set(CEILING, 400));
        t.first(x -> x.set(CEILING, ceiling));
        t.first(x -> x.fire(5, permits, permits));
        t.act(permits, x -> x.endYear());
        t.tells(coins, x -> x.kiln(5, COINS));
        t.tells(1000 - coins, x -> x.count(12));
        t.tells(5000 + coins, x -> x.count(11));
        t.tells(permits, x -> x.kiln(5, DEBT));
    }

    private static void coinsHeldBackAreNotTaken() {
        newTown();
        t.first(x -> x.bid(0, 9, 100));
        t.first(x -> x.fire(0, 2, 2));
        t.act(2, x -> x.endYear());
        t.tells(0, x -> x.kiln(0, COINS));
        t.tells(900, x -> x.kiln(0, HELD));
        t.tells(100, x -> x.count(12));
        t.act(9, x -> x.takeBack(0));
        t.act(2, x -> x.endYear());
        t.tells(700, x -> x.kiln(0, COINS));
    }

    private static void standingOrdersStay() {
        t.first(x -> x.issue(0, 5));
        t.first(x -> x.ask(0, 4, 60));
        t.first(x -> x.bid(1, 3, 40));
        t.first(x -> x.fire(0, 3, 3));
        t.tells(2, x -> x.kiln(0, LACK));
        t.act(2, x -> x.endYear());
        t.tells(1, x -> x.count(0));
        t.tells(2, x -> x.count(7));
        t.tells(4, x -> x.order(false, 0, 2));
        t.tells(3, x -> x.order(true, 0, 2));
        t.act(3, x -> x.issue(0, 3));
        t.act(0, x -> x.endYear());
        t.tells(2, x -> x.count(0));
        // what they offer is of the year for which it was issued
        t.act(1, x -> x.bid(2, 1, 60));
        t.tells(1, x -> x.ofYear(2, 0));
        t.act(3, x -> x.takeBack(0));
        t.tells(3, x -> x.ofYear(0, 0));
    }

    private static void fault(int fault, String text) {
        newTown();
        t.type(text);
        t.refused(-100 - fault, x -> x.orderAll());
    }

    private static void noFault(int answer, String text) {
        newTown();
        t.first(x -> x.set(FLOOR, 1));
        t.first(x -> x.set(CEILING, 500));
        t.first(x -> x.issue(0, 999));
        t.type(text);
        t.act(answer, x -> x.orderAll());
    }

    private static void texts() {
        says("There is a text of at most 60 characters, empty at first.");
        t.tells(0, x -> x.count(20));
        t.refused(-100, x -> x.orderAll());
        for (int length = 1; length <= 60; length++) {
            int typed = length;
            t.done(typed, x -> x.type('a'));
        }
        t.refused(FULL, x -> x.type('a'));
        t.tells(60, x -> x.count(20));

        says("A text of orders is one or more orders with \";\" between two");
        fault(0, "");
        noFault(0, "a0:1@1");
        noFault(1, "a0:1@1;b0:1@1");
        noFault(4, "a0:4@1;b0:1@1;b0:1@1;b0:1@1;b0:1@1;b0:1@1;b0:1@1;b0:1@500");
        fault(0, ";");
        fault(0, ";b0:1@10");
        fault(8, "b0:1@10;");
        fault(8, "b0:1@10;;b0:1@10");
        fault(7, "b0:1@10,b0:1@10");
        fault(7, "b0:1@10b0:1@10");
        fault(7, "b0:1@10 ");
        fault(8, "b0:1@10; b0:1@10");
        // room for eight of the shortest, and for the beginning of one more
        fault(56, "b0:1@1;b0:1@1;b0:1@1;b0:1@1;b0:1@1;b0:1@1;b0:1@1;b0:1@1;");
        fault(60, "b0:1@1;b0:1@1;b0:1@1;b0:1@1;b0:1@1;b0:1@1;b0:1@1;b0:1@1;b0:1");
        fault(59, "b0:1@1;b0:1@1;b0:1@1;b0:1@1;b0:1@1;b0:1@1;b0:1@1;b0:1@1;b0:0");

        says("\"b\" (bid) or \"a\" (ask)");
        noFault(0, "b0:1@1");
        for (char sign : new char[] {'c', '`', 'A', 'B', '0', ' ', (char) 0, (char) 0x161, (char) 0xff42}) {
            fault(0, sign + "0:1@10");
        }

        says("a kiln (0 to 5)");
        noFault(0, "b0:1@10");
        noFault(0, "b5:1@10");
        for (char sign : new char[] {'6', '9', '/', ':', '-', 'a', (char) 0x130, (char) 0x660}) {
            fault(1, "b" + sign + ":1@10");
        }
        fault(2, "b00:1@10");
        fault(2, "b10:1@10");

        says("a number of permits (1 to 999)");
        noFault(0, "a0:1@10");
        noFault(0, "a0:9@10");
        noFault(0, "a0:10@10");
        noFault(0, "a0:99@10");
        noFault(0, "a0:100@10");
        noFault(0, "a0:999@10");
        fault(3, "a0:0@10");
        fault(6, "a0:1000@10");
        fault(6, "a0:9990@10");
        fault(3, "a0:@10");
        fault(3, "a0:-1@10");
        fault(3, "a0:+1@10");

        says("a price (1 to 500)");
        noFault(0, "b0:1@1");
        noFault(0, "b0:1@50");
        noFault(0, "b0:1@99");
        noFault(0, "b0:1@499");
        noFault(0, "b0:1@500");
        fault(5, "b0:1@0");
        fault(7, "b0:1@501");
        fault(7, "b0:1@510");
        fault(7, "b0:1@600");
        fault(7, "b0:1@999");
        fault(8, "b0:1@1000");
        fault(8, "b0:1@5000");
        fault(5, "b0:1@;");

        says("Numbers have no zero in front");
        fault(3, "b0:01@10");
        fault(3, "b0:00@10");
        fault(5, "b0:1@010");
        fault(5, "b0:1@00");
        noFault(0, "b0:10@100");

        says("a digit by which a number would be greater than told is not allowed");
        noFault(0, "b0:1@50");
        fault(7, "b0:1@509");
        fault(7, "b0:1@501;b0:1@10");
        fault(6, "b0:9999@10");
        fault(6, "b0:1001@501");

        says("The fault of the text is the index, from 0, of the first character that is not allowed "
            + "at its place, or the length of the text if it ends too early (the empty text does).");
        endsTooEarly();
    }

    private static void endsTooEarly() {
        String text = "b3:120@45;a5:7@500";
        for (int length = 0; length < text.length(); length++) {
            boolean isComplete = length == 8 || length == 9 || length >= 16;
            if (!isComplete) {
                fault(length, text.substring(0, length));
            }
            if (!isComplete || length == 9) {
                fault(length, text.substring(0, length) + "x" + text.substring(length));
            }
        }
        noFault(0, "b3:12@4");
        noFault(0, "b3:12@45");
        fault(18, text + "x");
        fault(18, text + "0");
        fault(0, "xx");
        fault(1, "b66");
    }

    private static void history() {
        says("A history of at most 4 states is kept; when one more is recorded, the oldest one is dropped");
        for (int i = 1; i <= 3; i++) {
            t.first(x -> x.issue(0, 1));
        }
        t.tells(3, x -> x.count(19));
        t.act(1, x -> x.issue(0, 1));
        t.tells(4, x -> x.count(19));
        t.done(3, x -> x.undo());
        t.done(2, x -> x.undo());
        t.done(1, x -> x.undo());
        t.done(0, x -> x.undo());
        t.tells(0, x -> x.kiln(0, PERMITS));
        t.refused(NONE, x -> x.undo());
        newTown();
        for (int i = 1; i <= 5; i++) {
            t.first(x -> x.issue(0, 1));
        }
        t.tells(4, x -> x.count(19));
        for (int i = 3; i >= 0; i--) {
            int left = i;
            t.done(left, x -> x.undo());
            t.tells(left + 1, x -> x.kiln(0, PERMITS));
        }
        t.refused(NONE, x -> x.undo());
        t.tells(1, x -> x.kiln(0, PERMITS));

        says("undo() removes and restores the latest one");
        t.first(x -> x.issue(0, 1));
        t.first(x -> x.issue(0, 2));
        t.done(1, x -> x.undo());
        t.tells(1, x -> x.kiln(0, PERMITS));
        t.act(4, x -> x.issue(0, 4));
        t.tells(2, x -> x.count(19));
        t.done(1, x -> x.undo());
        t.tells(1, x -> x.kiln(0, PERMITS));
        t.done(0, x -> x.undo());
        t.tells(0, x -> x.kiln(0, PERMITS));
        t.refused(NONE, x -> x.undo());

        says("Each call of a method that is described as an act, and returns no error and not NONE, "
            + "records the state that was before it.");
        eachActIsRecorded();

        says("There is one snapshot, empty at first.");
        t.refused(NONE, x -> x.restore());
        t.done(0, x -> x.keep());
        t.act(0, x -> x.restore());
        t.first(x -> x.issue(0, 1));
        t.done(0, x -> x.keep());
        t.first(x -> x.issue(0, 1));
        t.act(0, x -> x.restore());
        t.tells(1, x -> x.kiln(0, PERMITS));
        t.act(0, x -> x.restore());
        t.tells(1, x -> x.kiln(0, PERMITS));

        says("A state is everything but the text, the history and the snapshot.");
        stateIsEverythingBut();
    }

    private static void eachActIsRecorded() {
        t.act(5, x -> x.issue(0, 5));
        t.act(0, x -> x.fire(0, 5, 0));
        t.act(5, x -> x.audit(0));
        t.act(0, x -> x.bid(1, 1, 10));
        newTown();
        t.first(x -> x.issue(0, 5));
        t.act(0, x -> x.ask(0, 2, 10));
        t.act(2, x -> x.takeBack(0));
        t.act(499, x -> x.buyReserve(0, 1));
        newTown();
        t.first(x -> x.fire(0, 5, 5));
        t.act(1, x -> x.borrow(0, 1));
        t.act(10, x -> x.set(FLOOR, 11));
        t.act(4, x -> x.endYear());
        newTown();
        t.first(x -> x.endYear());
        t.done(1, x -> x.keep());
        t.tells(1, x -> x.count(19));
        t.act(1, x -> x.restore());
        t.type("b1:1@20;b2:1@20");
        t.tells(2, x -> x.count(19));
        t.act(0, x -> x.orderAll());
        t.tells(3, x -> x.count(19));
        t.done(15, x -> x.clearText());
        t.done(1, x -> x.type('b'));
        t.tells(3, x -> x.count(19));
        t.done(2, x -> x.undo());
        t.tells(2, x -> x.count(19));
        // an act of which nothing comes is recorded, too
        newTown();
        t.act(0, x -> x.endYear());
        owing(2);
        t.act(0, x -> x.issue(0, 1));
        t.act(0, x -> x.issue(0, 1));
        asksStand(16);
        t.act(0, x -> x.bid(1, 1, 20));
    }

    private static void stateIsEverythingBut() {
        t.done(1, x -> x.type('b'));
        t.first(x -> x.issue(0, 1));
        t.done(0, x -> x.keep());
        t.done(2, x -> x.type('0'));
        t.first(x -> x.issue(0, 1));
        t.act(0, x -> x.restore());
        t.tells(2, x -> x.count(20));
        t.tells(3, x -> x.count(19));
        t.done(2, x -> x.undo());
        t.tells(2, x -> x.kiln(0, PERMITS));
        t.tells(2, x -> x.count(20));
        t.done(1, x -> x.undo());
        t.done(0, x -> x.undo());
        t.tells(0, x -> x.kiln(0, PERMITS));
        // the snapshot is there still
        t.act(0, x -> x.restore());
        t.tells(1, x -> x.kiln(0, PERMITS));
        t.done(2, x -> x.clearText());
        t.done(0, x -> x.undo());
        t.tells(0, x -> x.count(20));
        // and of everything, all comes back
        newTown();
        t.first(x -> x.set(CEILING, 200));
        t.first(x -> x.fire(1, 5, 5));
        t.first(x -> x.borrow(1, 1));
        t.first(x -> x.endYear());
        t.first(x -> x.issue(0, 9));
        t.first(x -> x.ask(0, 5, 50));
        t.first(x -> x.bid(2, 2, 50));
        t.first(x -> x.buyReserve(3, 1));
        t.done(1, x -> x.keep());
        t.first(x -> x.set(CEILING, 100));
        t.first(x -> x.takeBack(0));
        t.first(x -> x.fire(0, 9, 5));
        t.first(x -> x.audit(0));
        t.first(x -> x.endYear());
        t.act(1, x -> x.restore());
        int[] counts = {1, 10, 9, 0, 1, 499, 1, 1, 2, 2, 50, 5000, 800, 200, 10, 200, 20, 10, 3};
        for (int what = 0; what < counts.length; what++) {
            int number = what;
            t.tells(counts[number], x -> x.count(number));
        }
    }

    private static void errors() {
        says("Errors are reported by the constants below.");
        c.due(-1, UNKNOWN);
        c.due(-2, BAD_VALUE);
        c.due(-3, FULL);
        c.due(-4, KilnPermits.NOT_POSSIBLE);
        c.due(-5, NONE);

        says("Where several errors can apply, the order of the @return line is the order of the checks.");
        t.refused(UNKNOWN, x -> x.issue(6, 0));
        t.refused(UNKNOWN, x -> x.fire(-1, 0, 1));
        t.refused(UNKNOWN, x -> x.bid(6, 0, 0));
        t.refused(UNKNOWN, x -> x.ask(6, 1000, 0));
        t.refused(UNKNOWN, x -> x.ask(6, 1, 10));
        t.refused(UNKNOWN, x -> x.bid(6, 999, 100));
        t.refused(UNKNOWN, x -> x.buyReserve(6, 0));
        t.refused(UNKNOWN, x -> x.buyReserve(6, 999));
        t.refused(UNKNOWN, x -> x.borrow(6, 0));
        t.refused(UNKNOWN, x -> x.borrow(6, 1));
        t.refused(UNKNOWN, x -> x.kiln(6, 12));
        t.refused(UNKNOWN, x -> x.ofYear(6, 1));
        t.refused(BAD_VALUE, x -> x.bid(0, 1000, 100));
        t.refused(BAD_VALUE, x -> x.bid(0, 999, 101));
        t.refused(BAD_VALUE, x -> x.ask(0, 0, 10));
        t.refused(BAD_VALUE, x -> x.ask(0, 1000, 10));
        t.refused(BAD_VALUE, x -> x.ask(0, 1, 101));
        t.refused(BAD_VALUE, x -> x.buyReserve(0, 0));
        t.refused(BAD_VALUE, x -> x.buyReserve(0, 1000));
        t.refused(BAD_VALUE, x -> x.borrow(0, 0));
        t.refused(BAD_VALUE, x -> x.borrow(0, 1000));
        t.refused(FULL, x -> x.borrow(0, 999));
        t.refused(FULL, x -> x.buyReserve(0, 999));
        // a fault of the text goes before the errors of its orders
        t.type("b0:999@100;b0:1@");
        t.refused(-116, x -> x.orderAll());
        t.type("b0:999@100;b0:1@9");
        t.refused(FULL, x -> x.orderAll());

        says("NONE is no error; it is returned only if no error applies.");
        t.refused(UNKNOWN, x -> x.audit(6));
        t.refused(NONE, x -> x.audit(5));
        t.refused(BAD_VALUE, x -> x.order(true, 0, 4));
        t.refused(BAD_VALUE, x -> x.order(true, 99, -1));
        t.refused(NONE, x -> x.order(true, 0, 3));
        t.refused(BAD_VALUE, x -> x.set(5, 10));
        t.refused(NONE, x -> x.set(0, 10));
        t.refused(UNKNOWN, x -> x.kiln(6, 9));
        t.refused(NONE, x -> x.kiln(5, 9));

        says("A call that returns an error or NONE changes nothing.");
        busyTown();
        refusals();
        // also when the market is full, and when nothing is in the history
        asksStand(16);
        refusals();
        newTown();
        refusals();
    }

    private static void busyTown() {
        newTown();
        t.first(x -> x.issue(0, 20));
        t.first(x -> x.fire(2, 10, 6));
        t.first(x -> x.borrow(2, 1));
        t.first(x -> x.endYear());
        t.first(x -> x.issue(0, 9));
        t.first(x -> x.ask(0, 22, 30));
        t.first(x -> x.bid(3, 4, 20));
        t.first(x -> x.fire(1, 20, 5));
        t.first(x -> x.borrow(1, 1));
        t.first(x -> x.keep());
    }

    /** What no town of these tests allows. */
    private static void refusals() {
        t.refused(UNKNOWN, x -> x.issue(6, 1));
        t.refused(BAD_VALUE, x -> x.issue(0, 1000));
        t.refused(UNKNOWN, x -> x.fire(-1, 1, 1));
        t.refused(BAD_VALUE, x -> x.fire(1, 4, 5));
        t.refused(UNKNOWN, x -> x.audit(6));
        t.refused(NONE, x -> x.audit(4));
        t.refused(UNKNOWN, x -> x.bid(6, 1, 30));
        t.refused(BAD_VALUE, x -> x.bid(1, 1, 101));
        t.refused(FULL, x -> x.bid(1, 12, 100));
        t.refused(UNKNOWN, x -> x.ask(-1, 1, 10));
        t.refused(BAD_VALUE, x -> x.ask(0, 1, 9));
        t.refused(FULL, x -> x.ask(0, 999, 10));
        t.refused(UNKNOWN, x -> x.takeBack(99));
        t.refused(UNKNOWN, x -> x.takeBack(-1));
        t.refused(UNKNOWN, x -> x.buyReserve(6, 1));
        t.refused(BAD_VALUE, x -> x.buyReserve(1, 0));
        t.refused(FULL, x -> x.buyReserve(1, 11));
        t.refused(UNKNOWN, x -> x.borrow(6, 1));
        t.refused(BAD_VALUE, x -> x.borrow(1, 0));
        t.refused(FULL, x -> x.borrow(1, 99));
        t.refused(BAD_VALUE, x -> x.set(0, 100));
        t.refused(NONE, x -> x.set(1, 100));
        t.type("b1:1@30;b4:2@40;a5:1@10");
        t.refused(FULL, x -> x.orderAll());
        t.type("b1:1@100;a0:1@10;b4:1@101");
        t.refused(x -> x.orderAll());
        t.type("b1:1@100;a0:1@1O");
        t.refused(-115, x -> x.orderAll());
        t.type(";".repeat(60));
        t.refused(FULL, x -> x.type('b'));
    }
}
