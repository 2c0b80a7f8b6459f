/** Promises 14 to 18: best, more, giveBest, shared, rationFor. */
public final class PlansTest {
    private static final int BAD = RudeCoupons.BAD, NONE = RudeCoupons.NONE;
    private static final int[] WRONG = {-2, 4, 6, Integer.MIN_VALUE, Integer.MAX_VALUE};

    public static void main(String[] args) {
        bestByKind();
        bestOfSeveral();
        bestFromToday();
        more();
        giveBest();
        giveBestOfSeveral();
        shared();
        rationFor();
        wrongNumbers();
        Check.end();
    }

    private static void bestIs(String text, int worth, int set) {
        RudeCoupons x = Check.laid(text);
        Check.due("best(0, 0) of " + text, x.best(0, 0), worth);
        Check.due("best(0, 1) of " + text, x.best(0, 1), set);
    }

    private static void bestByKind() {
        String items = "d5,2,0;d4,1,0;d9,3,0;o1,0,0;o2,0,1;o3,0,2;o4,0,0;";
        bestIs("p0,0,0;" + items, 0, 0);
        bestIs("p0,3,0;" + items, 9, 3);
        bestIs("p0,5,0;" + items, 14, 5);
        bestIs("p0,15,0;" + items, 23, 15);
        bestIs("p1,2,0;" + items, 4, 2);
        bestIs("p1,6,0;" + items, 9, 3);
        bestIs("p1,15,0;" + items, 19, 13);
        bestIs("p2,1,0;" + items, 5, 8);
        bestIs("p2,2,0;" + items, 9, 10);
        bestIs("p2,15,0;" + items, 9, 10);
        bestIs("p3,1,0;" + items, 0, 0);
        bestIs("p3,4,0;" + items, 9, 3);
        bestIs("p3,3,0;" + items, 5, 1);
    }

    private static void bestOfSeveral() {
        bestIs("p0,1,0;d4,1,0;o9,0,0;o0,0,0;", 4, 1);
        bestIs("p0,2,0;d4,1,0;d8,2,0;o0,0,1;o1,0,0;o2,0,0;", 8, 1);
        bestIs("p0,2,0;d4,1,0;d8,2,0;o1,0,0;o2,0,0;o0,0,1;", 8, 3);
        bestIs("p0,9,0;d0,1,0;d3,1,0;o0,0,0;o0,0,1;o0,0,0;", 3, 2);
        bestIs("p0,9,0;d1,1,0;", 0, 0);
    }

    private static void bestFromToday() {
        RudeCoupons x = Check.laid("p0,2,0;p0,9,0;d4,1,0;d9,2,0;o0,0,1;o2,0,0;o1,0,0;o2,1,1;");
        Check.due("all ahead", x.best(0, 1), 1);
        x.pass(1);
        Check.due("the rest", x.best(0, 0), 8);
        Check.due("the set of the rest", x.best(0, 1), 6);
        x.take(2);
        Check.due("not what is taken", x.best(0, 1), 2);
        Check.due("of one's own", x.best(1, 1), 8);
        x.pass(1);
        Check.due("today counts", x.best(0, 0), 4);
        x.pass(1);
        Check.due("all behind", x.best(0, 0), 0);
        Check.due("no set", x.best(0, 1), 0);
    }

    private static void more() {
        RudeCoupons x = Check.laid("p0,14,0;p1,1,0;p3,1,0;d6,1,0;d9,3,0;d30,2,0;"
                + "o0,0,1;o0,0,1;o0,0,1;o0,0,1;o0,0,1;o1,1,0;o1,2,0;");
        Check.due("the fifteenth", x.more(0), 9);
        Check.due("a child's second", x.more(1), 6);
        Check.due("a thrifty one's second", x.more(2), 6);
        x.give(1, 0, 1);
        Check.due("15 already", x.more(0), 0);
        Check.due("a child's first", x.more(1), 0);
        Check.due("unchanged", x.count(5), 16);
    }

    private static void giveBest() {
        RudeCoupons x = Check.laid("p0,1,0;p0,1,0;p0,0,0;d5,1,0;d9,1,0;d7,1,0;o0,0,0;o1,2,1;o2,2,2;");
        Check.due("who whom", x.giveBest(0), 10);
        Check.due("by how much", x.giveBest(1), 9);
        x.give(1, 2, 1);
        Check.due("then", x.giveBest(0), 2);
        Check.due("by", x.giveBest(1), 2);
        x.give(0, 2, 1);
        Check.due("no more", x.giveBest(0), NONE);
        Check.due("by none", x.giveBest(1), NONE);
        Check.due("bad before none", x.giveBest(2), BAD);
        RudeCoupons little = Check.laid("p0,1,0;p0,0,0;d5,1,0;d6,1,0;o0,0,0;o0,1,1;");
        Check.due("grows by 1", little.giveBest(1), 1);
        Check.due("0 to 1", little.giveBest(0), 1);
        RudeCoupons full = Check.laid("p0,15,0;p0,15,0;d5,3,0;" + "o0,0,0;".repeat(6));
        Check.due("none can be given", full.giveBest(0), NONE);
        Check.due("one alone", Check.laid("p0,3,0;d5,1,0;o0,0,0;").giveBest(0), NONE);
    }

    private static void giveBestOfSeveral() {
        RudeCoupons x = Check.laid("p0,0,0;p0,2,0;p0,0,0;p0,2,0;d5,1,0;o0,0,0;o0,2,0;");
        Check.due("the first", x.giveBest(0), 8);
        x.ration(0);
        Check.due("none has one", x.giveBest(0), NONE);
    }

    private static void sharesAre(String text, int worth, int... shares) {
        RudeCoupons x = Check.laid(text);
        Check.due("shared(-1) of " + text, x.shared(-1), worth);
        for (int i = 0; i < shares.length; i++) {
            Check.due("shared(" + i + ") of " + text, x.shared(i), shares[i]);
        }
    }

    private static void shared() {
        sharesAre("p0,3,0;p0,4,0;p0,2,0;", 0, 9, 0, 0);
        sharesAre("p0,10,0;p0,10,0;p0,10,0;", 0, 15, 15, 0);
        sharesAre("p0,3,0;p0,0,0;d5,1,0;d4,2,0;o0,1,0;o0,0,1;", 9, 2, 1);
        sharesAre("p0,0,0;p1,0,0;", 0, 0, 0);
        sharesAre("p0,1,0;p2,0,0;p0,0,0;d5,3,0;d5,1,0;o0,1,0;o0,2,1;", 5, 0, 1, 0);
        sharesAre("p0,15,0;p0,15,0;p0,15,0;p0,15,0;p0,15,0;p0,15,0;d9,3,0;" + "o0,5,0;".repeat(6), 45, 15, 15, 15, 15, 15, 15);
        sharesAre("p0,15,0;p0,1,0;d9,3,0;d1,1,0;" + "o0,1,0;".repeat(5), 45, 1, 15);
    }

    private static void rationFor() {
        RudeCoupons x = Check.laid("p0,0,0;p0,0,0;d5,1,3;d9,2,0;d20,3,7;o0,0,0;o1,0,1;o2,0,2;");
        // 1: {0}, 3; 2: {1}, 0; 3: {2}, 7; 4: {0, 2}, 10; 5: {1, 2}, 7; from 6 on all, 10
        Check.due("rationFor(0)", x.rationFor(0), 2);
        Check.due("rationFor(6)", x.rationFor(6), 2);
        Check.due("rationFor(7)", x.rationFor(7), 5);
        Check.due("rationFor(9)", x.rationFor(9), 5);
        Check.due("rationFor(10)", x.rationFor(10), 15);
        Check.due("rationFor(999)", x.rationFor(999), 15);
        Check.due("one is harmless", Check.laid("p0,9,0;p0,0,3;d5,1,3;d9,2,4;o0,0,0;o0,0,1;").rationFor(0), 1);
        Check.due("he who is first suffers", Check.laid("p0,9,0;p0,0,9;d5,1,3;o0,1,0;").rationFor(2), 0);
        Check.due("none allowed", Check.laid("p0,9,0;p0,0,0;d5,1,1;o0,0,0;").rationFor(0), 0);
        x.ration(15);
        x.take(0);
        Check.due("not what was suffered already", x.rationFor(7), 15);
        x.pass(3);
        Check.due("nothing ahead", x.rationFor(0), 15);
        Check.due("rationFor(-1)", x.rationFor(-1), BAD);
        Check.due("rationFor(1000)", x.rationFor(1000), BAD);
    }

    private static void wrongNumbers() {
        RudeCoupons x = new RudeCoupons();
        for (int bad : WRONG) {
            Check.due("best(" + bad + ", 0)", x.best(bad, 0), BAD);
            Check.due("best(0, " + bad + ")", x.best(0, bad), BAD);
            Check.due("more(" + bad + ")", x.more(bad), BAD);
            Check.due("giveBest(" + bad + ")", x.giveBest(bad), BAD);
            Check.due("shared(" + bad + ")", x.shared(bad), BAD);
        }
        Check.due("best(-1, 0)", x.best(-1, 0), BAD);
        Check.due("best(0, -1)", x.best(0, -1), BAD);
        Check.due("best(0, 2)", x.best(0, 2), BAD);
        Check.due("more(-1)", x.more(-1), BAD);
        Check.due("giveBest(-1)", x.giveBest(-1), BAD);
        Check.due("giveBest(2)", x.giveBest(2), BAD);
        Check.due("rationFor(least)", x.rationFor(Integer.MIN_VALUE), BAD);
        Check.due("rationFor(most)", x.rationFor(Integer.MAX_VALUE), BAD);
    }
}
