/** The edges of promises 27 to 29: each method is for one sentence of the document. */
public final class KeptEdgesTest {
    private static final int BAD = RudeCoupons.BAD, NO = RudeCoupons.NO, FULL = RudeCoupons.FULL;

    public static void main(String[] args) {
        keptAreTwoAtMost();
        refusedKeepAndBack();
        asKeptLast();
        allAsItStands();
        theTextIsKept();
        seenIsNotKept();
        nothingIsUndoneThen();
        keepLeavesAllElse();
        laidKeepsNothing();
        roomAgain();
        countsOfTheEmptiest();
        countsOfTheFullest();
        countsOfAShrunkBook();
        countsAreTen();
        aLifeOf512Calls();
        Check.end();
    }

    /** '2 at most'; keep: 'KEPT: how many. FULL.' */
    private static void keptAreTwoAtMost() {
        RudeCoupons x = new RudeCoupons();
        int[] answers = {1, 2, FULL, FULL};
        int[] counts = {1, 2, 2, 2};
        for (int n = 0; n < answers.length; n++) {
            Check.due("keep " + n, x.keep(), answers[n]);
            Check.due("kept " + n, x.count(8), counts[n]);
        }
        int[] backs = {1, 0, NO, NO};
        int[] left = {1, 0, 0, 0};
        for (int n = 0; n < backs.length; n++) {
            Check.due("back " + n, x.back(), backs[n]);
            Check.due("left " + n, x.count(8), left[n]);
        }
    }

    private static void refusedKeepAndBack() {
        Refused full = new Refused("full", States::full);
        full.call("a third", RudeCoupons::keep, FULL);
        new Refused("two of another day", () -> {
            RudeCoupons x = States.used();
            x.keep();
            x.ration(9);
            x.wipe();
            return x;
        }).call("a third", RudeCoupons::keep, FULL);
        new Refused("new", RudeCoupons::new).call("back", RudeCoupons::back, NO);
        new Refused("brought back", () -> {
            RudeCoupons x = States.used();
            x.back();
            x.pass(2);
            x.ration(3);
            Check.write(x, "p1,4");
            return x;
        }).call("back", RudeCoupons::back, NO);
    }

    /** back: 'As KEPT last: how many are left'. */
    private static void asKeptLast() {
        RudeCoupons x = new RudeCoupons();
        x.pass(1);
        x.keep();
        x.pass(2);
        x.keep();
        x.pass(4);
        Check.due("back to the second", x.back(), 1);
        Check.due("its day", x.count(3), 3);
        Check.due("back to the first", x.back(), 0);
        Check.due("its day too", x.count(3), 1);
    }

    /** 'KEPT is all as it stands': DAY, COUPONS, taken, had, suffered, given. */
    private static void allAsItStands() {
        RudeCoupons x = States.used();
        x.back();
        RudeCoupons y = States.used();
        y.back();
        y.keep();
        y.pass(4);
        y.ration(9);
        y.take(5);
        y.give(0, 2, 3);
        y.back();
        Check.same("as it stood", Refused.allOf(y), Refused.allOf(x));
        Check.due("taken", y.count(4), 1);
        Check.due("had", y.person(0, 3), 4);
        Check.due("heard", y.heard(-1), 1);
        Check.due("net of 1", y.net(1), 9999);
        Check.due("net of 3", y.net(3), 10001);
        Check.due("coupons of 1", y.person(1, 1), 4);
        Check.due("the day", y.count(3), 0);
        Check.due("can be taken", y.occasion(0, 4), 0);
    }

    /** THE TEXT is of 'all', as the document leaves out nothing but what is SEEN. */
    private static void theTextIsKept() {
        for (int length : new int[] {0, 1, 199, 200}) {
            RudeCoupons x = Check.written("p".repeat(length));
            x.keep();
            x.wipe();
            Check.write(x, "d");
            x.back();
            Check.due("letters of " + length, x.count(9), length);
            Check.due("one more to " + length, x.write('p'), length < 200 ? length + 1 : FULL);
        }
        RudeCoupons x = Check.written("d5,1,0;p1,7,2;");
        x.keep();
        x.wipe();
        Check.write(x, "p0,3,4;p0,3,4;p0,3,4;");
        x.back();
        Check.due("laid as kept", x.lay(), 1);
        Check.due("its doing", x.count(1), 1);
        Check.due("its kind", x.person(0, 0), 1);
        Check.due("its coupons", x.person(0, 1), 7);
    }

    /** 'but what is SEEN'. */
    private static void seenIsNotKept() {
        RudeCoupons x = new RudeCoupons();
        x.keep();
        x.seen(2, 0, 1);
        x.back();
        Check.due("seen since stays", x.count(6), 1);
        Check.due("without since", x.without(), 4);
        x.keep();
        x.forget();
        x.back();
        Check.due("forgotten since stays so", x.count(6), 0);
        Check.due("without none", x.without(), 0);
    }

    /** back: 'nothing is UNDONE then'. */
    private static void nothingIsUndoneThen() {
        for (int deeds = 0; deeds <= 9; deeds++) {
            RudeCoupons x = new RudeCoupons();
            for (int n = 0; n < deeds; n++) {
                x.pass(1);
            }
            x.keep();
            x.ration(3);
            x.back();
            Check.due("to be undone behind " + deeds, x.count(7), 0);
            Check.due("undo behind " + deeds, x.undo(), NO);
            Check.due("the day behind " + deeds, x.count(3), deeds);
            x.pass(1);
            Check.due("what came then", x.undo(), 0);
            Check.due("the day again", x.count(3), deeds);
        }
    }

    private static void keepLeavesAllElse() {
        RudeCoupons x = States.used();
        RudeCoupons y = States.used();
        y.keep();
        for (int what = 0; what <= 9; what++) {
            Check.due("count(" + what + ")", y.count(what), x.count(what) + (what == 8 ? 1 : 0));
        }
        for (int left = 3; left >= 0; left--) {
            Check.due("undo behind keep", y.undo(), left);
        }
        Check.due("the first day", y.count(3), 0);
        Check.due("undone is kept though", y.back(), 1);
        Check.due("its day", y.count(3), 1);
        Check.due("its taken", y.count(4), 2);
    }

    private static void laidKeepsNothing() {
        RudeCoupons x = States.full();
        Check.due("two kept", x.count(8), 2);
        Check.due("laid", x.lay(), 6);
        Check.due("none kept", x.count(8), 0);
        Check.due("back", x.back(), NO);
        Check.due("keep", x.keep(), 1);
        Check.due("back to day 0", x.back(), 0);
        Check.due("all coupons", x.count(5), 90);
    }

    private static void roomAgain() {
        RudeCoupons x = new RudeCoupons();
        for (int n = 0; n < 60; n++) {
            x.ration(n % 16);
            Check.due("first", x.keep(), 1);
            x.ration((n + 5) % 16);
            Check.due("second", x.keep(), 2);
            x.ration(0);
            Check.due("back to the second", x.back(), 1);
            Check.due("its coupons", x.count(5), 4 * ((n + 5) % 16));
            Check.due("back to the first", x.back(), 0);
            Check.due("the first's coupons", x.count(5), 4 * (n % 16));
        }
    }

    private static void countsOfTheEmptiest() {
        int[] counts = {1, 0, 0, 0, 0, 0, 0, 0, 0, 0};
        for (int what = 0; what <= 9; what++) {
            Check.due("count(" + what + ") of the emptiest", States.bare().count(what), counts[what]);
        }
    }

    private static void countsOfTheFullest() {
        int[] counts = {6, 6, 10, 99, 2, 90, 8, 8, 2, 200};
        for (int what = 0; what <= 9; what++) {
            Check.due("count(" + what + ") of the fullest", States.full().count(what), counts[what]);
        }
    }

    private static void countsOfAShrunkBook() {
        int[] counts = {2, 1, 1, 0, 0, 3, 0, 0, 0, 28};
        for (int what = 0; what <= 9; what++) {
            Check.due("count(" + what + ") of a shrunk book", States.shrunk().count(what), counts[what]);
        }
        Check.due("none of those who were there", States.shrunk().shared(0), 3);
        Check.due("nor in the evening", States.shrunk().letGo(99, 0), 1);
        Check.due("nor in a year", States.shrunk().year(1, 1), 1);
    }

    /** count: '0 PERSONS, .. 9 letters of THE TEXT. BAD.' */
    private static void countsAreTen() {
        Refused used = new Refused("used", States::used);
        for (int bad : new int[] {-1, 10, 11, Integer.MIN_VALUE, Integer.MAX_VALUE}) {
            used.call("count(" + bad + ")", x -> x.count(bad), BAD);
        }
        int[] counts = {4, 3, 9, 1, 2, 10, 1, 4, 1, 4};
        for (int what = 0; what <= 9; what++) {
            Check.due("count(" + what + ") in use", States.used().count(what), counts[what]);
        }
    }

    /** 'An object is used for at most 512 calls': the last of them answers as the first. */
    private static void aLifeOf512Calls() {
        RudeCoupons x = new RudeCoupons();
        for (int n = 0; n < 128; n++) {
            Check.due("ration", x.ration(n % 2), n == 0 ? 13 : 4 * ((n + 1) % 2));
            x.shared(-1);
            Check.due("undo", x.undo(), n < 1 ? 0 : Math.min(7, n));
            x.ration(n % 2);
        }
    }
}
