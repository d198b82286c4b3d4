/** What the tests of edges share: names for numbers of the document, and the towns of now. */
class Edges {
    static final int UNKNOWN = KilnPermits.UNKNOWN;
    static final int BAD_VALUE = KilnPermits.BAD_VALUE;
    static final int FULL = KilnPermits.FULL;
    static final int NONE = KilnPermits.NONE;

    static final int COINS = 0;
    static final int PERMITS = 1;
    static final int SMOKE = 2;
    static final int TOLD = 3;
    static final int BORROWED = 4;
    static final int FINES = 5;
    static final int DEBT = 6;
    static final int OWED = 7;
    static final int LACK = 8;
    static final int OLDEST = 9;
    static final int OFFERED = 10;
    static final int HELD = 11;

    static final int FLOOR = 0;
    static final int CEILING = 1;
    static final int MOST_BORROWED = 2;
    static final int INTEREST = 3;
    static final int FINE = 4;

    static final int LEAST = Integer.MIN_VALUE;
    static final int GREATEST = Integer.MAX_VALUE;

    static Check c;
    static Twins t;

    interface OfKiln {
        int call(KilnPermits x, int kiln);
    }

    Edges() {
    }

    static void begin(String name) {
        c = new Check(name);
        t = new Twins(c);
    }

    static void says(String sentence) {
        newTown();
        c.part("\"" + sentence + "\"");
    }

    static void newTown() {
        t.end();
        t = new Twins(c);
    }

    static void close() {
        t.end();
        c.close();
    }

    /** Lets kiln 0 owe so many for borrowing, without any permits. */
    static void owing(int permits) {
        newTown();
        t.first(x -> x.set(MOST_BORROWED, 100));
        t.first(x -> x.set(INTEREST, 0));
        t.first(x -> x.fire(0, permits, permits));
        t.first(x -> x.borrow(0, permits));
        t.first(x -> x.endYear());
        t.tells(permits, x -> x.kiln(0, OWED));
    }

    /** Lets so many asks of kiln 0 stand, of one permit each at 50. */
    static void asksStand(int orders) {
        newTown();
        t.first(x -> x.issue(0, 100));
        for (int i = 0; i < orders; i++) {
            t.first(x -> x.ask(0, 1, 50));
        }
        t.tells(orders, x -> x.count(7));
    }
}
