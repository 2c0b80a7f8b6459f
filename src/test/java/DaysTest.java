/** Promises 9 to 13: take, pass, give, ration, undo. */
public final class DaysTest {
    private static final int BAD = RudeCoupons.BAD, NO = RudeCoupons.NO, FULL = RudeCoupons.FULL;

    public static void main(String[] args) {
        takeByKind();
        takeOnce();
        sufferingBySkin();
        pass();
        give();
        ration();
        undo();
        undoOfEight();
        wrongCallsChangeNothing();
        Check.end();
    }

    private static void takes(String who, String doing, int day, int want) {
        RudeCoupons x = Check.laid(who + doing + "o" + day + ",0,0;");
        if (day > 0) {
            x.pass(day);
        }
        Check.due("can " + who + doing + " on " + day, x.occasion(0, 4), want >= 0 ? 1 : 0);
        Check.due("take " + who + doing + " on " + day, x.take(0), want);
        Check.due("taken " + who + doing + " on " + day, x.count(4), want >= 0 ? 1 : 0);
    }

    private static void takeByKind() {
        takes("p0,3,0;", "d5,3,0;", 0, 0);
        takes("p0,2,0;", "d5,3,0;", 0, NO);
        takes("p0,9,0;", "d5,2,0;", 7, 7);
        takes("p1,6,0;", "d5,3,0;", 0, 0);
        takes("p1,5,0;", "d5,3,0;", 0, NO);
        takes("p1,5,0;", "d5,1,0;", 1, 3);
        takes("p2,1,0;", "d5,3,0;", 0, 0);
        takes("p2,0,0;", "d5,3,0;", 0, NO);
        takes("p2,9,0;", "d5,3,0;", 1, NO);
        takes("p2,9,0;", "d5,3,0;", 2, 8);
        takes("p3,3,0;", "d5,3,0;", 0, NO);
        takes("p3,4,0;", "d5,3,0;", 0, 1);
        takes("p3,0,0;", "d5,1,0;", 0, NO);
        takes("p3,2,0;", "d0,1,0;", 3, 1);
    }

    private static void takeOnce() {
        RudeCoupons x = Check.laid("p0,9,0;d5,2,0;d3,1,0;o1,0,0;o1,0,1;o2,0,1;");
        Check.due("a day early", x.take(0), NO);
        x.pass(1);
        Check.due("on its day", x.take(0), 7);
        Check.due("twice", x.take(0), NO);
        Check.due("had", x.person(0, 3), 5);
        Check.due("another that day", x.take(1), 6);
        Check.due("had of both", x.person(0, 3), 8);
        x.pass(2);
        Check.due("a day late", x.take(2), NO);
        for (int bad : new int[] {-1, 3, 10, 32, Integer.MIN_VALUE, Integer.MAX_VALUE}) {
            Check.due("take " + bad, x.take(bad), BAD);
        }
    }

    private static void sufferingBySkin() {
        RudeCoupons x = Check.laid("p0,9,0;p0,9,4;p0,9,6;p0,9,9;d5,1,6;d1,1,9;o0,0,0;o0,3,1;");
        x.take(0);
        int[] first = {0, 2, 0, 0};
        for (int i = 0; i < 4; i++) {
            Check.due("suffered by " + i, x.heard(i), first[i]);
        }
        x.take(1);
        int[] second = {9, 7, 3, 0};
        for (int i = 0; i < 4; i++) {
            Check.due("suffered by " + i + " of two", x.heard(i), second[i]);
        }
        Check.due("suffered by all", x.heard(-1), 19);
    }

    private static void pass() {
        RudeCoupons x = new RudeCoupons();
        for (int bad : new int[] {0, -1, 31, Integer.MIN_VALUE, Integer.MAX_VALUE}) {
            Check.due("pass(" + bad + ")", x.pass(bad), BAD);
        }
        Check.due("pass(1)", x.pass(1), 1);
        Check.due("pass(30)", x.pass(30), 31);
        x.pass(30);
        x.pass(30);
        Check.due("above 99", x.pass(9), NO);
        Check.due("bad before no", x.pass(31), BAD);
        Check.due("to 99", x.pass(8), 99);
        Check.due("no more", x.pass(1), NO);
        Check.due("the day", x.count(3), 99);
    }

    private static void give() {
        RudeCoupons x = Check.laid("p0,15,0;p1,14,0;p2,1,0;");
        Check.due("of 15 to 15", x.give(0, 1, 1), 14);
        Check.due("full", x.give(0, 1, 1), FULL);
        Check.due("given", x.person(1, 1), 15);
        Check.due("not so many", x.give(2, 0, 2), NO);
        Check.due("no before full", x.give(2, 1, 2), NO);
        Check.due("all he has", x.give(2, 0, 1), 0);
        Check.due("of none", x.give(2, 0, 1), NO);
        Check.due("fifteen", x.give(0, 2, 15), 0);
        Check.due("alike", x.give(1, 1, 1), BAD);
        Check.due("none", x.give(1, 0, 0), BAD);
        Check.due("sixteen", x.give(1, 0, 16), BAD);
        Check.due("fewer than none", x.give(1, 0, -1), BAD);
        Check.due("who", x.give(3, 0, 1), BAD);
        Check.due("whom", x.give(0, 3, 1), BAD);
        Check.due("-1 gives", x.give(-1, 0, 1), BAD);
        Check.due("to -1", x.give(0, -1, 1), BAD);
        Check.due("most", x.give(Integer.MAX_VALUE, Integer.MIN_VALUE, Integer.MAX_VALUE), BAD);
        Check.due("to least", x.give(0, Integer.MIN_VALUE, Integer.MIN_VALUE), BAD);
        Check.due("all together", x.count(5), 30);
    }

    private static void ration() {
        RudeCoupons x = Check.laid("p0,15,0;p1,14,0;p2,1,0;");
        for (int bad : new int[] {-1, 16, Integer.MIN_VALUE, Integer.MAX_VALUE}) {
            Check.due("ration(" + bad + ")", x.ration(bad), BAD);
        }
        Check.due("ration(15)", x.ration(15), 30);
        Check.due("ration(0)", x.ration(0), 45);
        Check.due("ration(4)", x.ration(4), 0);
        Check.due("all", x.count(5), 12);
        for (int i = 0; i < 3; i++) {
            Check.due("each", x.person(i, 1), 4);
            Check.due("no gift", x.net(i), 10000);
        }
    }

    private static void undo() {
        RudeCoupons x = new RudeCoupons();
        Check.due("nothing done", x.undo(), NO);
        String[] before = new String[5];
        before[0] = Check.stateOf(x);
        x.take(0);
        before[1] = Check.stateOf(x);
        x.pass(4);
        before[2] = Check.stateOf(x);
        x.give(1, 0, 3);
        before[3] = Check.stateOf(x);
        x.ration(7);
        before[4] = Check.stateOf(x);
        x.take(5);
        for (int left = 4; left >= 0; left--) {
            Check.due("undo to " + left, x.undo(), left);
            Check.same("as before " + left, Check.stateOf(x), before[left]);
        }
        Check.due("all undone", x.undo(), NO);
        x.take(0);
        x.undo();
        Check.due("taken again", x.take(0), 3);
    }

    private static void undoOfEight() {
        RudeCoupons x = new RudeCoupons();
        for (int n = 1; n <= 20; n++) {
            x.pass(n % 3 + 1);
            Check.due("can be undone", x.count(7), Math.min(n, 8));
        }
        int day = x.count(3);
        for (int n = 20; n > 12; n--) {
            Check.due("undo", x.undo(), n - 13);
            day -= n % 3 + 1;
            Check.due("the day", x.count(3), day);
        }
        Check.due("no ninth", x.undo(), NO);
        Check.due("still that day", x.count(3), day);
        x.pass(2);
        Check.due("one more", x.count(7), 1);
        Check.due("undone", x.undo(), 0);
        Check.due("that day again", x.count(3), day);
    }

    private static void wrongCallsChangeNothing() {
        RudeCoupons x = new RudeCoupons();
        x.pass(30);
        x.pass(30);
        x.pass(30);
        String before = Check.stateOf(x);
        x.take(0);
        x.take(99);
        x.pass(0);
        x.pass(10);
        x.give(0, 0, 1);
        x.give(0, 1, 5);
        x.ration(16);
        x.best(0, 0);
        x.shared(-1);
        x.giveBest(0);
        x.rationFor(3);
        x.year(3, 0);
        x.letGo(9, 0);
        x.keepOne(0, 9, 9);
        x.seen(9, 0, 0);
        Check.same("nothing changes", Check.stateOf(x), before);
    }
}
