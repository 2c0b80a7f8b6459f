/** Promises 19 to 21: seen, forget, without. */
public final class SeenTest {
    private static final int BAD = RudeCoupons.BAD, FULL = RudeCoupons.FULL;

    public static void main(String[] args) {
        seenAndForget();
        wrongNumbers();
        withoutByKind();
        withoutAsTold();
        Check.end();
    }

    private static void seenAndForget() {
        RudeCoupons x = new RudeCoupons();
        Check.due("nothing to forget", x.forget(), 0);
        for (int n = 1; n <= 8; n++) {
            Check.due("seen", x.seen(0, 0, 99), n);
        }
        Check.due("a ninth", x.seen(0, 0, 0), FULL);
        Check.due("bad before full", x.seen(0, 0, 100), BAD);
        Check.due("count", x.count(6), 8);
        Check.due("without", x.without(), 1);
        Check.due("forget", x.forget(), 8);
        Check.due("count of none", x.count(6), 0);
        Check.due("without none", x.without(), 0);
        Check.due("seen anew", x.seen(0, 0, 0), 1);
        Check.due("the old is forgotten", x.without(), 0);
    }

    private static void wrongNumbers() {
        RudeCoupons x = new RudeCoupons();
        for (int bad : new int[] {-1, 4, Integer.MIN_VALUE, Integer.MAX_VALUE}) {
            Check.due("person " + bad, x.seen(bad, 0, 0), BAD);
        }
        for (int bad : new int[] {-1, 3, Integer.MIN_VALUE, Integer.MAX_VALUE}) {
            Check.due("doing " + bad, x.seen(0, bad, 0), BAD);
        }
        for (int bad : new int[] {-1, 100, Integer.MIN_VALUE, Integer.MAX_VALUE}) {
            Check.due("day " + bad, x.seen(0, 0, bad), BAD);
        }
        Check.due("none of these", x.count(6), 0);
        Check.due("without", x.without(), 0);
    }

    private static void withoutByKind() {
        RudeCoupons x = Check.laid("p0,3,0;p1,6,0;p2,2,0;p3,4,0;d1,1,1;d2,2,2;d3,3,3;");
        for (int i = 0; i < 4; i++) {
            x.seen(i, 2, 98);
        }
        Check.due("each just could", x.without(), 0);
        for (int i = 0; i < 4; i++) {
            x.seen(i, 0, 2);
        }
        Check.due("one more, but for the guest", x.without(), 11);
        x.forget();
        x.seen(2, 0, 1);
        Check.due("a guest on an odd day", x.without(), 4);
        x.forget();
        x.seen(1, 0, 1);
        x.seen(1, 0, 1);
        x.seen(1, 0, 1);
        x.seen(0, 2, 1);
        Check.due("on one day", x.without(), 0);
        x.seen(1, 0, 0);
        Check.due("one too many", x.without(), 2);
    }

    private static void withoutAsTold() {
        RudeCoupons x = Check.laid("p0,3,0;p0,0,0;d1,1,1;d2,2,2;o0,0,0;");
        x.seen(0, 1, 5);
        x.seen(0, 0, 5);
        x.ration(0);
        Check.due("not by what he has now", x.without(), 0);
        x.seen(1, 0, 0);
        x.ration(15);
        Check.due("not by what he was given", x.without(), 2);
        x.wipe();
        Check.write(x, "p0,0,0;p0,9,0;");
        Check.due("nor by a text not laid", x.without(), 2);
        Check.due("not a doing done", x.person(0, 3), 0);
    }
}
