/** Promises 1 to 8: a new object, write, wipe, fault, lay, person, doing, occasion. */
public final class BooksTest {
    private static final int BAD = RudeCoupons.BAD, NO = RudeCoupons.NO, FULL = RudeCoupons.FULL, NONE = RudeCoupons.NONE;

    public static void main(String[] args) {
        newObject();
        writeAndWipe();
        faults();
        faultsOfCounts();
        lay();
        layBeginsAnew();
        fewerThanBefore();
        person();
        doing();
        occasion();
        Check.end();
    }

    private static void newObject() {
        RudeCoupons x = new RudeCoupons();
        int[] counts = {4, 3, 9, 0, 0, 13, 0, 0, 0, 0};
        for (int what = 0; what < counts.length; what++) {
            Check.due("new count(" + what + ")", x.count(what), counts[what]);
        }
        Check.due("new fault", x.fault(), NONE);
        RudeCoupons y = Check.laid(Check.FIRST);
        y.wipe();
        Check.same("new object", Check.stateOf(x), Check.stateOf(y));
        Check.due("BAD", BAD, -1);
        Check.due("NO", NO, -2);
        Check.due("FULL", FULL, -3);
        Check.due("NONE", NONE, -4);
    }

    private static void writeAndWipe() {
        RudeCoupons x = new RudeCoupons();
        for (int letter : new int[] {31, 127, 0, -1, 10, 65536 + 65, Integer.MIN_VALUE, Integer.MAX_VALUE}) {
            Check.due("write(" + letter + ")", x.write(letter), BAD);
        }
        Check.due("nothing written", x.count(9), 0);
        Check.due("write(32)", x.write(32), 1);
        Check.due("write(126)", x.write(126), 2);
        Check.due("wipe", x.wipe(), 2);
        Check.due("wipe again", x.wipe(), 0);
        for (int n = 1; n <= 200; n++) {
            Check.due("letter " + n, x.write('p'), n);
        }
        Check.due("letter 201", x.write('p'), FULL);
        Check.due("bad before full", x.write(127), BAD);
        Check.due("still 200", x.count(9), 200);
        Check.due("wipe of 200", x.wipe(), 200);
        Check.due("empty", x.count(9), 0);
        Check.due("written again", x.write('d'), 1);
    }

    private static void faultOf(String text, int want) {
        Check.due("fault of " + text, Check.written(text).fault(), want);
    }

    private static void faults() {
        faultOf("", NONE);
        faultOf("p0,0,0;", NONE);
        faultOf("p3,15,9;d0,1,0;d30,3,9;o0,0,0;o60,0,1;", NONE);
        faultOf("p00,05,09;d07,01,00;o00,00,00;", NONE);
        faultOf("d1,1,1;p0,1,1;o1,0,0;", NONE);
        String[] wrong = {
            "p4,0,0;", "p0,16,0;", "p0,0,10;", "d31,1,0;", "d1,0,0;", "d1,4,0;", "d1,1,10;",
            "o61,0,0;", "o0,1,0;", "o0,0,1;", "P0,0,0;", "x0,0,0;", " p0,0,0;", ";", ",", "0,0,0;",
            "p", "p0", "p0,", "p0,0", "p0,0,", "p0,0,0", "p0,0,0,", "p0,0,0,0;", "p0,0;", "p;", "p,0,0;", "p0,,0;",
            "p0,0,;", "p000,0,0;", "p0,001,0;", "p0,0,000;", "p-1,0,0;", "p+1,0,0;", "p0 ,0,0;", "p0,0,0 ;",
            "p0;0,0;", "p0,0.0;", "pa,0,0;", "p0,0,0:", "d99,1,1;", "p0,99,0;", "p/,0,0;", "p:,0,0;"};
        String ahead = "p0,1,1;d1,1,1;";
        for (String item : wrong) {
            faultOf(ahead + item, ahead.length());
            faultOf(ahead + "o1,0,0;" + item + "p0,0,0;", ahead.length() + 7);
        }
        faultOf("p0,0,0;;", 7);
        faultOf("o0,0,0;", 0);
        faultOf("p0,0,0;o0,0,0;d1,1,1;", 7);
        faultOf("d1,1,1;o0,0,0;p0,0,0;", 7);
        faultOf("p9,0,0;p9,0,0;", 0);
    }

    private static void faultsOfCounts() {
        String six = "p0,0,0;".repeat(6);
        faultOf(six, NONE);
        faultOf(six + "p0,0,0;", 42);
        String sixDoings = "d1,1,1;".repeat(6);
        faultOf(sixDoings, NONE);
        faultOf(sixDoings + "d1,1,1;", 42);
        String ten = "p0,0,0;d1,1,1;" + "o0,0,0;".repeat(10);
        faultOf(ten, NONE);
        faultOf(ten + "o0,0,0;", 84);
        faultOf(ten + "p0,0,0;d1,1,1;o0,0,0;", 98);
        faultOf(six + sixDoings + "o0,5,5;".repeat(10), NONE);
    }

    private static void lay() {
        RudeCoupons x = new RudeCoupons();
        Check.due("lay of nothing", x.lay(), NO);
        Check.write(x, "d1,1,1;");
        Check.due("lay without persons", x.lay(), NO);
        Check.write(x, "p1,7,2;");
        Check.due("lay", x.lay(), 1);
        Check.due("the text stays", x.count(9), 14);
        Check.due("persons", x.count(0), 1);
        Check.due("doings", x.count(1), 1);
        Check.due("occasions", x.count(2), 0);
        Check.write(x, "p0,0,0");
        String before = Check.stateOf(x);
        Check.due("lay with a fault", x.lay(), NO);
        Check.same("nothing changes", Check.stateOf(x), before);
        x.write(';');
        Check.due("lay of two", x.lay(), 2);
    }

    private static void layBeginsAnew() {
        RudeCoupons x = Check.laid(Check.FIRST);
        String before = Check.stateOf(x);
        x.take(0);
        x.pass(1);
        x.give(1, 0, 2);
        x.ration(9);
        x.seen(0, 0, 0);
        x.keep();
        x.write('?');
        String played = Check.stateOf(x);
        Check.due("lay with a fault", x.lay(), NO);
        Check.same("nothing changes", Check.stateOf(x), played);
        x.wipe();
        Check.write(x, Check.FIRST);
        Check.due("lay anew", x.lay(), 4);
        Check.same("all anew", Check.stateOf(x), before);
        Check.due("nothing undone", x.undo(), NO);
        Check.due("nothing kept", x.back(), NO);
        Check.due("nothing seen", x.forget(), 0);
    }

    private static void fewerThanBefore() {
        RudeCoupons x = Check.laid("p0,9,0;p0,8,0;p0,7,0;");
        x.wipe();
        Check.write(x, "p0,2,0;");
        x.lay();
        Check.due("only his", x.count(5), 2);
        Check.due("one alone", x.letGo(99, 0), 1);
        Check.due("no second", x.person(1, 1), BAD);
    }

    private static void person() {
        RudeCoupons x = Check.laid("p3,15,9;p1,6,4;d7,2,3;o0,1,0;");
        int[][] want = {{3, 15, 9, 0}, {1, 6, 4, 0}};
        for (int i = 0; i < 2; i++) {
            for (int what = 0; what < 4; what++) {
                Check.due("person(" + i + "," + what + ")", x.person(i, what), want[i][what]);
            }
        }
        x.take(0);
        Check.due("coupons left", x.person(1, 1), 2);
        Check.due("had", x.person(1, 3), 7);
        Check.due("had by the other", x.person(0, 3), 0);
        for (int bad : new int[] {-1, 2, 6, Integer.MIN_VALUE, Integer.MAX_VALUE}) {
            Check.due("person " + bad, x.person(bad, 0), BAD);
        }
        for (int bad : new int[] {-1, 4, Integer.MIN_VALUE, Integer.MAX_VALUE}) {
            Check.due("person what " + bad, x.person(0, bad), BAD);
        }
    }

    private static void doing() {
        RudeCoupons x = Check.laid("p0,0,0;d30,3,9;d0,1,0;");
        int[][] want = {{30, 3, 9}, {0, 1, 0}};
        for (int q = 0; q < 2; q++) {
            for (int what = 0; what < 3; what++) {
                Check.due("doing(" + q + "," + what + ")", x.doing(q, what), want[q][what]);
            }
        }
        for (int bad : new int[] {-1, 2, 6, Integer.MIN_VALUE, Integer.MAX_VALUE}) {
            Check.due("doing " + bad, x.doing(bad, 0), BAD);
        }
        for (int bad : new int[] {-1, 3, Integer.MIN_VALUE, Integer.MAX_VALUE}) {
            Check.due("doing what " + bad, x.doing(0, bad), BAD);
        }
    }

    private static void occasion() {
        RudeCoupons x = Check.laid("p0,3,0;p2,1,0;d5,2,1;d6,1,1;o60,1,0;o0,0,1;o0,0,0;o1,1,1;");
        int[][] want = {{60, 1, 0, 0, 0}, {0, 0, 1, 0, 1}, {0, 0, 0, 0, 1}, {1, 1, 1, 0, 0}};
        for (int k = 0; k < 4; k++) {
            for (int what = 0; what < 5; what++) {
                Check.due("occasion(" + k + "," + what + ")", x.occasion(k, what), want[k][what]);
            }
        }
        x.take(2);
        Check.due("taken", x.occasion(2, 3), 1);
        Check.due("not again", x.occasion(2, 4), 0);
        Check.due("one is enough", x.occasion(1, 4), 1);
        x.give(0, 1, 1);
        Check.due("none left", x.occasion(1, 4), 0);
        x.pass(1);
        Check.due("a guest on an odd day", x.occasion(3, 4), 0);
        for (int bad : new int[] {-1, 4, 10, 31, 32, Integer.MIN_VALUE, Integer.MAX_VALUE}) {
            Check.due("occasion " + bad, x.occasion(bad, 0), BAD);
        }
        for (int bad : new int[] {-1, 5, Integer.MIN_VALUE, Integer.MAX_VALUE}) {
            Check.due("occasion what " + bad, x.occasion(0, bad), BAD);
        }
    }
}
