/** Promises 27 to 29: keep, back, count. */
public final class KeptTest {
    private static final int BAD = RudeCoupons.BAD, NO = RudeCoupons.NO, FULL = RudeCoupons.FULL;

    public static void main(String[] args) {
        keepAndBack();
        twoAtMost();
        backAndUndo();
        textIsKept();
        seenIsNot();
        count();
        Check.end();
    }

    private static void keepAndBack() {
        RudeCoupons x = new RudeCoupons();
        Check.due("nothing kept", x.back(), NO);
        x.take(0);
        x.give(1, 0, 2);
        Check.due("keep", x.keep(), 1);
        String[] kept = stateWithout(x);
        x.pass(4);
        x.take(5);
        x.give(0, 1, 1);
        x.ration(3);
        Check.due("back", x.back(), 0);
        String[] again = stateWithout(x);
        Check.same("as kept", again[0], kept[0]);
        Check.due("day", x.count(3), 0);
        Check.due("taken", x.count(4), 1);
        Check.due("had", x.person(0, 3), 4);
        Check.due("net", x.net(1), 9998);
        Check.due("heard", x.heard(-1), 1);
        Check.due("nothing kept then", x.back(), NO);
    }

    /** All that keep and back bring back, without the counts of what is UNDONE and KEPT. */
    private static String[] stateWithout(RudeCoupons x) {
        StringBuilder all = new StringBuilder();
        for (int what : new int[] {0, 1, 2, 3, 4, 5, 9}) {
            all.append(x.count(what)).append(' ');
        }
        for (int i = 0; i < x.count(0); i++) {
            all.append(x.person(i, 1)).append(' ').append(x.person(i, 3)).append(' ');
            all.append(x.net(i)).append(' ').append(x.heard(i)).append(' ');
        }
        for (int k = 0; k < x.count(2); k++) {
            all.append(x.occasion(k, 3)).append(x.occasion(k, 4)).append(' ');
        }
        return new String[] {all.toString()};
    }

    private static void twoAtMost() {
        RudeCoupons x = new RudeCoupons();
        x.keep();
        x.pass(1);
        Check.due("second", x.keep(), 2);
        x.pass(1);
        Check.due("third", x.keep(), FULL);
        Check.due("two", x.count(8), 2);
        Check.due("the day stays", x.count(3), 2);
        Check.due("the last kept", x.back(), 1);
        Check.due("its day", x.count(3), 1);
        Check.due("room again", x.keep(), 2);
        x.back();
        Check.due("the first kept", x.back(), 0);
        Check.due("its day", x.count(3), 0);
        Check.due("no more", x.back(), NO);
    }

    private static void backAndUndo() {
        RudeCoupons x = new RudeCoupons();
        x.pass(1);
        x.keep();
        Check.due("keep is not to be undone", x.count(7), 1);
        x.pass(1);
        Check.due("undone behind keep", x.undo(), 1);
        Check.due("and ahead of it", x.undo(), 0);
        x.pass(3);
        x.back();
        Check.due("nothing to undo", x.count(7), 0);
        Check.due("undo", x.undo(), NO);
        Check.due("the day kept", x.count(3), 1);
        x.pass(5);
        Check.due("of what came then", x.undo(), 0);
        Check.due("the day kept again", x.count(3), 1);
        x.pass(2);
        Check.due("no back", x.back(), NO);
        Check.due("it leaves undo alone", x.count(7), 1);
    }

    private static void textIsKept() {
        RudeCoupons x = Check.written("p0,1,1;x");
        x.keep();
        x.wipe();
        Check.write(x, "d");
        x.keep();
        Check.write(x, "1,1,1;p0,2,2;");
        x.back();
        Check.due("the text kept last", x.count(9), 1);
        Check.due("its fault", x.fault(), 0);
        x.back();
        Check.due("the text kept first", x.count(9), 8);
        Check.due("its fault", x.fault(), 7);
        RudeCoupons full = Check.written("p".repeat(200));
        full.keep();
        full.wipe();
        full.back();
        Check.due("a full text", full.count(9), 200);
        Check.due("still full", full.write('p'), FULL);
    }

    private static void seenIsNot() {
        RudeCoupons x = new RudeCoupons();
        x.seen(2, 0, 1);
        x.keep();
        x.forget();
        x.seen(0, 0, 0);
        x.seen(3, 2, 0);
        x.back();
        Check.due("as it was", x.count(6), 2);
        Check.due("without", x.without(), 8);
    }

    private static void count() {
        RudeCoupons x = Check.laid("p0,9,0;p0,8,0;d1,1,1;d1,1,1;d1,1,1;o0,0,0;o0,1,2;o3,0,1;o3,0,1;");
        x.take(1);
        x.take(0);
        x.pass(3);
        x.take(3);
        x.seen(0, 0, 0);
        x.seen(0, 0, 0);
        x.seen(1, 0, 0);
        x.seen(1, 0, 0);
        x.seen(1, 0, 0);
        x.undo();
        x.take(2);
        x.give(0, 1, 4);
        x.keep();
        int[] counts = {2, 3, 4, 3, 3, 14, 5, 5, 1, 63};
        for (int what = 0; what < counts.length; what++) {
            Check.due("count(" + what + ")", x.count(what), counts[what]);
        }
        for (int bad : new int[] {-1, 10, Integer.MIN_VALUE, Integer.MAX_VALUE}) {
            Check.due("count(" + bad + ")", x.count(bad), BAD);
        }
    }
}
