/** Promises 22 to 26: letGo, keepOne, net, heard, year. */
public final class EveningTest {
    private static final int BAD = RudeCoupons.BAD, NO = RudeCoupons.NO;

    public static void main(String[] args) {
        letGo();
        keepOne();
        net();
        heard();
        year();
        yearInOrder();
        yearOfManyDays();
        yearFromToday();
        wrongNumbers();
        Check.end();
    }

    private static void letsGo(String people, int minutes, int gone, int left) {
        RudeCoupons x = Check.laid(people);
        Check.due("letGo(" + minutes + ", 0) of " + people, x.letGo(minutes, 0), gone);
        Check.due("letGo(" + minutes + ", 1) of " + people, x.letGo(minutes, 1), left);
        Check.due("none is gone", x.count(5), gone + left);
    }

    private static void letGo() {
        letsGo("p0,0,0;", 99, 0, 0);
        letsGo("p0,1,0;", 99, 1, 0);
        letsGo("p0,7,0;", 99, 1, 6);
        letsGo("p0,7,0;", 0, 0, 7);
        letsGo("p0,7,0;p1,2,0;", 99, 5, 4);
        letsGo("p0,7,0;p1,2,0;", 4, 4, 5);
        letsGo("p0,7,0;p1,6,0;", 99, 13, 0);
        letsGo("p0,7,0;p1,5,0;", 99, 11, 1);
        letsGo("p0,2,0;p1,3,0;p2,7,0;", 99, 11, 1);
        letsGo("p0,2,0;p1,3,0;p2,7,0;p3,1,0;", 99, 13, 0);
        letsGo("p0,15,0;p1,15,0;p2,15,0;p3,15,0;p0,15,0;p0,15,0;", 90, 90, 0);
        letsGo("p0,15,0;p1,15,0;p2,15,0;p3,15,0;p0,15,0;p0,15,0;", 89, 89, 1);
    }

    private static void keepOne() {
        RudeCoupons x = Check.laid("p0,3,0;p3,2,0;p0,0,0;p0,9,0;d5,1,0;d7,2,0;o0,0,0;o0,0,1;o1,1,0;");
        Check.due("12 to 7: 50", x.keepOne(0, 50, 1), 0);
        Check.due("51", x.keepOne(0, 51, 1), 1);
        Check.due("never comes", x.keepOne(0, 99, 0), 0);
        Check.due("surely comes", x.keepOne(0, 6, 10), 1);
        Check.due("surely, for as much", x.keepOne(0, 5, 10), 0);
        Check.due("a thrifty one's", x.keepOne(1, 10, 5), 0);
        Check.due("a thrifty one's, more", x.keepOne(1, 17, 3), 1);
        Check.due("none", x.keepOne(2, 9, 9), NO);
        Check.due("his only one", Check.laid("p0,1,0;d5,1,0;o0,0,0;").keepOne(0, 51, 1), 1);
        Check.due("of no use else", x.keepOne(3, 1, 1), 1);
        Check.due("of no use at all", x.keepOne(3, 0, 10), 0);
        Check.due("bad before no", x.keepOne(2, 100, 9), BAD);
        Check.due("still there", x.count(5), 14);
    }

    private static void net() {
        RudeCoupons x = Check.laid("p0,15,0;p0,0,0;p0,3,0;");
        x.give(0, 1, 9);
        x.give(1, 2, 4);
        x.give(2, 0, 1);
        Check.due("net(0)", x.net(0), 9992);
        Check.due("net(1)", x.net(1), 10005);
        Check.due("net(2)", x.net(2), 10003);
        x.give(0, 2, 15);
        Check.due("not what was not given", x.net(0), 9992);
        x.ration(3);
        Check.due("no ration", x.net(0), 9992);
        x.undo();
        x.undo();
        Check.due("undone", x.net(2), 10004);
        for (int n = 0; n < 100; n++) {
            x.ration(15);
            x.give(0, 1, 0);
            x.ration(0);
        }
        Check.due("still", x.net(2), 10004);
    }

    private static void heard() {
        RudeCoupons x = Check.laid("p0,9,2;p0,9,0;p0,9,8;d1,1,5;o0,0,0;o1,1,0;");
        Check.due("at first", x.heard(-1), 0);
        x.take(0);
        Check.due("of all", x.heard(-1), 5);
        x.pass(1);
        x.take(1);
        Check.due("heard(0)", x.heard(0), 3);
        Check.due("heard(1)", x.heard(1), 5);
        Check.due("heard(2)", x.heard(2), 0);
        Check.due("of all then", x.heard(-1), 8);
        x.ration(0);
        Check.due("as before", x.heard(-1), 8);
    }

    /** Whether the DRAW lets OCCASION k be taken in a YEAR by z. */
    private static boolean drawn(int z, int k) {
        java.math.BigInteger x = java.math.BigInteger.valueOf(7919L * z + 6151L * k + 1);
        long draw = x.multiply(x).mod(java.math.BigInteger.valueOf(65521)).longValue() / 8;
        return draw % 4 != 0;
    }

    private static void year() {
        RudeCoupons x = Check.laid("p0,15,0;p0,15,0;d1,1,0;d2,1,0;o0,0,0;o0,1,1;");
        for (int z : new int[] {0, 1, 2, 3, 4, 5, 6, 7, 27, 28, 5000, 9998, 9999}) {
            int had = (drawn(z, 0) ? 1 : 0) + (drawn(z, 1) ? 2 : 0);
            int left = 30 - (drawn(z, 0) ? 1 : 0) - (drawn(z, 1) ? 1 : 0);
            Check.due("year(" + z + ", 0)", x.year(z, 0), had);
            Check.due("year(" + z + ", 1)", x.year(z, 1), left);
        }
        // x is 1: 1 by 8 is 0, not taken; x is 6152: 37847104 modulo 65521 is 41487, by 8 is 5185, modulo 4 is 1: taken
        Check.due("year(0, 0) by hand", x.year(0, 0), 2);
        Check.due("year(0, 1) by hand", x.year(0, 1), 29);
        Check.due("nothing had", x.person(0, 3), 0);
        Check.due("nothing taken", x.count(4), 0);
        Check.due("no coupon gone", x.count(5), 30);
    }

    private static void yearInOrder() {
        // With one COUPON the OCCASION that comes first by DAYS and is drawn has it.
        RudeCoupons x = Check.laid("p0,1,0;d1,1,0;d2,1,0;d3,1,0;o5,0,0;o3,0,1;o3,0,2;");
        int[] order = {1, 2, 0};
        for (int z = 0; z < 60; z++) {
            int want = 0;
            for (int k : order) {
                if (want == 0 && drawn(z, k)) {
                    want = k + 1;
                }
            }
            Check.due("year(" + z + ", 0)", x.year(z, 0), want);
            Check.due("year(" + z + ", 1)", x.year(z, 1), want == 0 ? 1 : 0);
        }
    }

    private static void yearOfManyDays() {
        // Told from the last DAY to the first, so that each goes ahead of all before it.
        RudeCoupons x = Check.laid("p0,1,0;d1,1,0;d2,1,0;d3,1,0;d4,1,0;o9,0,0;o8,0,1;o7,0,2;o6,0,3;");
        for (int z = 0; z < 60; z++) {
            int want = 0;
            for (int k = 3; k >= 0 && want == 0; k--) {
                want = drawn(z, k) ? k + 1 : 0;
            }
            Check.due("year(" + z + ", 0) backwards", x.year(z, 0), want);
        }
    }

    private static void yearFromToday() {
        RudeCoupons x = Check.laid("p0,9,0;p2,9,0;d1,1,0;d2,1,0;d4,1,0;o0,0,0;o1,0,1;o2,0,2;o3,1,2;");
        int z = 0;
        for (int y = 0; y < 2000; y++) {
            z = drawn(y, 0) && drawn(y, 1) && drawn(y, 2) && drawn(y, 3) ? y : z;
        }
        Check.due("all, but the guest's on an odd day", x.year(z, 0), 7);
        x.take(0);
        Check.due("not what is taken", x.year(z, 0), 6);
        x.pass(1);
        Check.due("today too", x.year(z, 0), 6);
        x.pass(1);
        Check.due("not what is past", x.year(z, 0), 4);
        x.pass(2);
        Check.due("nothing ahead", x.year(z, 0), 0);
        Check.due("all left", x.year(z, 1), 17);
    }

    private static void wrongNumbers() {
        RudeCoupons x = new RudeCoupons();
        for (int bad : new int[] {-2, 10000, Integer.MIN_VALUE, Integer.MAX_VALUE}) {
            Check.due("letGo m " + bad, x.letGo(bad, 0), BAD);
            Check.due("letGo what " + bad, x.letGo(0, bad), BAD);
            Check.due("keepOne i " + bad, x.keepOne(bad, 0, 0), BAD);
            Check.due("keepOne w " + bad, x.keepOne(0, bad, 0), BAD);
            Check.due("keepOne x " + bad, x.keepOne(0, 0, bad), BAD);
            Check.due("net " + bad, x.net(bad), BAD);
            Check.due("heard " + bad, x.heard(bad), BAD);
            Check.due("year z " + bad, x.year(bad, 0), BAD);
            Check.due("year what " + bad, x.year(0, bad), BAD);
        }
        Check.due("letGo(-1, 0)", x.letGo(-1, 0), BAD);
        Check.due("letGo(-1, 1)", x.letGo(-1, 1), BAD);
        Check.due("letGo(100, 0)", x.letGo(100, 0), BAD);
        Check.due("letGo(0, 2)", x.letGo(0, 2), BAD);
        Check.due("letGo(0, -1)", x.letGo(0, -1), BAD);
        Check.due("keepOne(4, 0, 0)", x.keepOne(4, 0, 0), BAD);
        Check.due("keepOne(-1, 0, 0)", x.keepOne(-1, 0, 0), BAD);
        Check.due("keepOne(0, 100, 0)", x.keepOne(0, 100, 0), BAD);
        Check.due("keepOne(0, -1, 0)", x.keepOne(0, -1, 0), BAD);
        Check.due("keepOne(0, 0, 11)", x.keepOne(0, 0, 11), BAD);
        Check.due("keepOne(0, 0, -1)", x.keepOne(0, 0, -1), BAD);
        Check.due("net(4)", x.net(4), BAD);
        Check.due("net(-1)", x.net(-1), BAD);
        Check.due("heard(4)", x.heard(4), BAD);
        Check.due("year(-1, 0)", x.year(-1, 0), BAD);
        Check.due("year(0, 2)", x.year(0, 2), BAD);
        Check.due("year(0, -1)", x.year(0, -1), BAD);
    }
}
