/** States that the tests of edges begin with: new, in use, full to every bound, and with as little as there can be. */
final class States {
    /** 22 ITEMS in just 200 letters: 6 PERSONS, 6 DOINGS, 10 OCCASIONS, each number at its most. */
    static final String FULLEST = "p03,15,09;".repeat(6) + "d30,03,09;".repeat(6) + "o60,5,5;".repeat(10);

    private States() {
    }

    /** With something taken, given, SEEN, KEPT and to be UNDONE, on DAY 1, and an ITEM that stands open in THE TEXT. */
    static RudeCoupons used() {
        RudeCoupons x = new RudeCoupons();
        x.take(0);
        x.give(1, 3, 1);
        x.seen(2, 2, 3);
        x.keep();
        x.pass(1);
        x.take(1);
        Check.write(x, "p2,7");
        return x;
    }

    /** 15 COUPONS with each, 8 to be UNDONE, 8 SEEN, 2 KEPT, 200 letters, on DAY 99. */
    static RudeCoupons full() {
        RudeCoupons x = Check.laid(FULLEST);
        x.keep();
        int[] days = {30, 30, 1, 1, 30, 1, 1, 1, 4};
        for (int n = 0; n < days.length; n++) {
            x.pass(days[n]);
            if (n == 1) {
                x.take(0);
                x.take(9);
            }
        }
        x.ration(15);
        x.keep();
        for (int n = 0; n < 8; n++) {
            x.seen(n % 6, n % 5, n);
        }
        return x;
    }

    /** One PERSON without COUPONS, no DOING, no OCCASION. */
    static RudeCoupons bare() {
        RudeCoupons x = Check.laid("p0,0,0;");
        x.wipe();
        return x;
    }

    /** A smaller book LAID behind a greater one, whose numbers are none any more. */
    static RudeCoupons shrunk() {
        RudeCoupons x = Check.laid(Check.FIRST);
        x.wipe();
        Check.write(x, "p1,3,0;p0,0,4;d5,1,3;o0,0,0;");
        x.lay();
        return x;
    }
}
