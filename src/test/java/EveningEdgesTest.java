/** The edges of part 4 and of promises 19 to 26: each method is for one sentence of the document. */
public final class EveningEdgesTest {
    private static final int BAD = RudeCoupons.BAD, NO = RudeCoupons.NO, FULL = RudeCoupons.FULL;

    public static void main(String[] args) {
        seenAreEightAtMost();
        seenOnDays0To99();
        refusedSightings();
        forgetOfNoneAndAll();
        withoutBeyondHisCoupons();
        withoutOfGuests();
        withoutIsOfEachAlone();
        withoutByTheLaidText();
        withoutInEachOrder();
        letGoByTryingAll();
        letGoInNoMinuteAndIn99();
        refusedEvenings();
        keepOneIfMoreThanTenTimes();
        keepOneOfNoneAndOne();
        netSinceLaid();
        heardSoFar();
        yearByDraws();
        yearTakesWhatCanBe();
        yearByDaysHoweverTold();
        yearFromTodayOn();
        yearOfNothing();
        askingChangesNothing();
        Check.end();
    }

    /** 'SEEN (8 at most)'; seen: 'how many. BAD; FULL.' */
    private static void seenAreEightAtMost() {
        RudeCoupons x = new RudeCoupons();
        for (int n = 1; n <= 8; n++) {
            Check.due("seen " + n, x.seen(0, 0, n), n);
            Check.due("seen so far", x.count(6), n);
        }
        Refused full = new Refused("full", States::full);
        full.call("a ninth", y -> y.seen(0, 0, 0), FULL);
        full.call("BAD ahead of FULL, person", y -> y.seen(6, 0, 0), BAD);
        full.call("BAD ahead of FULL, doing", y -> y.seen(0, 6, 0), BAD);
        full.call("BAD ahead of FULL, day", y -> y.seen(0, 0, 100), BAD);
    }

    /** 'on a DAY (0 to 99)', whichever it is today. */
    private static void seenOnDays0To99() {
        for (int day = -2; day <= 102; day++) {
            boolean is = day >= 0 && day <= 99;
            RudeCoupons x = States.used();
            Check.due("seen on " + day, x.seen(0, 0, day), is ? 2 : BAD);
        }
    }

    private static void refusedSightings() {
        Refused used = new Refused("used", States::used);
        for (int bad : new int[] {-1, 4, Integer.MIN_VALUE, Integer.MAX_VALUE}) {
            used.call("person " + bad, x -> x.seen(bad, 0, 0), BAD);
            used.call("doing " + bad, x -> x.seen(0, bad, 0), BAD);
        }
        used.call("doing 3", x -> x.seen(0, 3, 0), BAD);
        for (int bad : new int[] {-1, 100, Integer.MIN_VALUE, Integer.MAX_VALUE}) {
            used.call("day " + bad, x -> x.seen(0, 0, bad), BAD);
        }
        new Refused("bare", States::bare).call("no doing", x -> x.seen(0, 0, 0), BAD);
    }

    /** forget: 'Nothing is SEEN: how many were.' */
    private static void forgetOfNoneAndAll() {
        for (int n = 0; n <= 8; n++) {
            RudeCoupons x = Check.laid("p0,0,0;d1,1,1;");
            for (int s = 0; s < n; s++) {
                x.seen(0, 0, s);
            }
            Check.due("without of " + n, x.without(), n == 0 ? 0 : 1);
            Check.due("forget of " + n, x.forget(), n);
            Check.due("seen then", x.count(6), 0);
            Check.due("without then", x.without(), 0);
            Check.due("forget of none", x.forget(), 0);
            Check.due("room for the first", x.seen(0, 0, 0), 1);
        }
    }

    private static int affordable(int kind, int n, int coupons) {
        int[] cost = {n, 2 * n, 1, n};
        int of = kind == 3 ? Math.max(0, coupons - 1) : coupons;
        return of / cost[kind];
    }

    /** 'could not have done one of these'. */
    private static void withoutBeyondHisCoupons() {
        for (int kind = 0; kind <= 3; kind++) {
            for (int n = 1; n <= 3; n++) {
                for (int coupons = 0; coupons <= 15; coupons++) {
                    RudeCoupons x = Check.laid("p" + kind + "," + coupons + ",0;d1," + n + ",1;");
                    for (int times = 1; times <= 8; times++) {
                        x.seen(0, 0, 2 * times);
                        boolean could = times <= affordable(kind, n, coupons);
                        Check.due(times + " times by " + kind + " of " + coupons, x.without(), could ? 0 : 1);
                    }
                }
            }
        }
    }

    private static void withoutOfGuests() {
        for (int day = 0; day <= 99; day++) {
            RudeCoupons x = Check.laid("p2,1,0;d1,3,1;");
            x.seen(0, 0, day);
            Check.due("a guest on " + day, x.without(), day % 2);
        }
    }

    private static void withoutIsOfEachAlone() {
        RudeCoupons x = Check.laid("p0,1,0;".repeat(6) + "d1,1,1;");
        Check.due("nothing seen", x.without(), 0);
        for (int i = 0; i < 6; i++) {
            x.seen(i, 0, 9);
        }
        Check.due("once each", x.without(), 0);
        x.seen(5, 0, 0);
        Check.due("twice by the last", x.without(), 32);
        x.seen(0, 0, 0);
        Check.due("and by the first", x.without(), 33);
        RudeCoupons none = Check.laid("p0,0,0;".repeat(6) + "d1,1,1;");
        for (int i = 0; i < 6; i++) {
            none.seen(i, 0, 0);
        }
        Check.due("all", none.without(), 63);
    }

    /** 'beginning with as many COUPONS as the TEXT told'. */
    private static void withoutByTheLaidText() {
        RudeCoupons x = Check.laid("p0,2,0;p0,0,0;d1,2,1;o0,0,0;");
        x.seen(0, 0, 0);
        x.seen(1, 0, 0);
        Check.due("as told", x.without(), 2);
        x.take(0);
        Check.due("not less by what was done", x.without(), 2);
        x.ration(15);
        Check.due("not more by a ration", x.without(), 2);
        x.ration(8);
        x.give(0, 1, 5);
        Check.due("nor by a gift", x.without(), 2);
        x.wipe();
        Check.due("nor by the text that is written", x.without(), 2);
    }

    /** 'in order of DAYS (on one DAY as it was told)'. */
    private static void withoutInEachOrder() {
        int[][] orders = {{0, 1, 2}, {0, 2, 1}, {1, 0, 2}, {1, 2, 0}, {2, 0, 1}, {2, 1, 0}};
        for (int[] order : orders) {
            for (int apart = 0; apart <= 2; apart += 2) {
                RudeCoupons x = Check.laid("p0,6,0;p1,12,0;p2,3,0;p3,7,0;p0,5,0;p3,6,0;d1,1,1;d1,2,1;d1,3,1;");
                int without = 0;
                for (int i = 0; i < 6; i++) {
                    x.forget();
                    for (int s = 0; s < 3; s++) {
                        x.seen(i, order[s], 50 - apart * s);
                    }
                    without |= x.without();
                }
                Check.due("six in all, two of them without", without, 48);
            }
        }
    }

    /** Every way to let one go in each minute, until in one minute none can be. */
    private static int gone(int[] coupons, int last, int minutes) {
        int most = 0;
        for (int i = 0; i < coupons.length && minutes > 0; i++) {
            if (i != last && coupons[i] > 0) {
                coupons[i]--;
                most = Math.max(most, 1 + gone(coupons, i, minutes - 1));
                coupons[i]++;
            }
        }
        return most;
    }

    /** 'one in each minute from the first on, none of one PERSON in two minutes on end, are let go at most'. */
    private static void letGoByTryingAll() {
        for (int a = 0; a <= 5; a++) {
            for (int b = 0; b <= 3; b++) {
                for (int c = 0; c <= 2; c++) {
                    RudeCoupons x = Check.laid("p0," + a + ",0;p2," + b + ",0;p1," + c + ",0;");
                    for (int m = 0; m <= 12; m++) {
                        int want = gone(new int[] {a, b, c}, -1, m);
                        String told = m + " minutes of " + a + " " + b + " " + c;
                        Check.due(told, x.letGo(m, 0), want);
                        Check.due(told + ", left", x.letGo(m, 1), a + b + c - want);
                    }
                }
            }
        }
    }

    /** 'in m (0 to 99) minutes'. */
    private static void letGoInNoMinuteAndIn99() {
        RudeCoupons x = Check.laid("p0,15,0;".repeat(6));
        for (int m = -2; m <= 102; m++) {
            boolean is = m >= 0 && m <= 99;
            Check.due("letGo(" + m + ", 0)", x.letGo(m, 0), is ? Math.min(90, m) : BAD);
            Check.due("letGo(" + m + ", 1)", x.letGo(m, 1), is ? 90 - Math.min(90, m) : BAD);
        }
        RudeCoupons none = States.bare();
        Check.due("of none", none.letGo(99, 0), 0);
        Check.due("none left", none.letGo(99, 1), 0);
        RudeCoupons alone = Check.laid("p0,15,0;");
        Check.due("alone in one minute", alone.letGo(1, 0), 1);
        Check.due("alone in 99", alone.letGo(99, 0), 1);
        Check.due("alone, left", alone.letGo(99, 1), 14);
    }

    private static void refusedEvenings() {
        Refused used = new Refused("used", States::used);
        for (int bad : new int[] {-2, 10000, Integer.MIN_VALUE, Integer.MAX_VALUE}) {
            used.call("letGo(" + bad + ", 0)", x -> x.letGo(bad, 0), BAD);
            used.call("letGo(0, " + bad + ")", x -> x.letGo(0, bad), BAD);
            used.call("keepOne(" + bad + ", 0, 0)", x -> x.keepOne(bad, 0, 0), BAD);
            used.call("keepOne(0, " + bad + ", 0)", x -> x.keepOne(0, bad, 0), BAD);
            used.call("keepOne(0, 0, " + bad + ")", x -> x.keepOne(0, 0, bad), BAD);
            used.call("net(" + bad + ")", x -> x.net(bad), BAD);
            used.call("heard(" + bad + ")", x -> x.heard(bad), BAD);
            used.call("year(" + bad + ", 0)", x -> x.year(bad, 0), BAD);
            used.call("year(0, " + bad + ")", x -> x.year(0, bad), BAD);
        }
        used.call("net(-1)", x -> x.net(-1), BAD);
        used.call("heard(4)", x -> x.heard(4), BAD);
        used.call("letGo(0, 2)", x -> x.letGo(0, 2), BAD);
        used.call("year(0, 2)", x -> x.year(0, 2), BAD);
        Refused bare = new Refused("bare", States::bare);
        bare.call("none to keep", x -> x.keepOne(0, 99, 10), NO);
        bare.call("BAD ahead of NO, w", x -> x.keepOne(0, 100, 10), BAD);
        bare.call("BAD ahead of NO, w below", x -> x.keepOne(0, -1, 10), BAD);
        bare.call("BAD ahead of NO, x", x -> x.keepOne(0, 99, 11), BAD);
        bare.call("BAD ahead of NO, x below", x -> x.keepOne(0, 99, -1), BAD);
        bare.call("BAD ahead of NO, who", x -> x.keepOne(1, 99, 10), BAD);
    }

    /** '1, if w times x is more than ten times what BEST loses by one COUPON less, 0'. */
    private static void keepOneIfMoreThanTenTimes() {
        RudeCoupons x = Check.laid("p0,3,0;d5,1,0;d12,2,0;o0,0,0;o0,0,1;");
        int[] loses = {0, 5, 7, 5, 0};
        for (int r = 1; r <= 4; r++) {
            x.ration(r);
            int[][] asks = {{0, 0}, {99, 0}, {0, 10}, {50, 1}, {51, 1}, {5, 10}, {6, 10}, {7, 10}, {8, 10}, {70, 1}, {71, 1},
                {35, 2}, {36, 2}, {1, 1}, {99, 10}, {99, 1}};
            for (int[] ask : asks) {
                int want = ask[0] * ask[1] > 10 * loses[r] ? 1 : 0;
                Check.due(ask[0] + " by " + ask[1] + " of " + r, x.keepOne(0, ask[0], ask[1]), want);
            }
        }
        for (int w = -2; w <= 101; w++) {
            boolean is = w >= 0 && w <= 99;
            Check.due("w " + w, x.keepOne(0, w, 10), is ? w > 0 ? 1 : 0 : BAD);
        }
        for (int by = -2; by <= 13; by++) {
            boolean is = by >= 0 && by <= 10;
            Check.due("x " + by, x.keepOne(0, 99, by), is ? by > 0 ? 1 : 0 : BAD);
        }
    }

    /** 'NO: he has none'. */
    private static void keepOneOfNoneAndOne() {
        RudeCoupons x = Check.laid("p0,1,0;p0,0,0;d30,1,0;o0,0,0;");
        Check.due("his only one, as much", x.keepOne(0, 30, 10), 0);
        Check.due("his only one, more", x.keepOne(0, 31, 10), 1);
        Check.due("none", x.keepOne(1, 31, 10), NO);
        x.take(0);
        Check.due("none then", x.keepOne(0, 31, 10), NO);
        x.undo();
        Check.due("one again", x.keepOne(0, 31, 10), 1);
        x.ration(15);
        Check.due("one of fifteen", x.keepOne(0, 1, 1), 1);
        x.ration(0);
        Check.due("none of none", x.keepOne(0, 1, 1), NO);
    }

    /** 'NET of a PERSON: COUPONS given to him since LAID less those he gave, and 10000.' */
    private static void netSinceLaid() {
        RudeCoupons x = Check.laid("p0,15,0;p0,0,0;p0,0,0;");
        for (int n = 1; n <= 200; n++) {
            x.ration(7);
            Check.due("given", x.give(0, 1, 7), 0);
            if (n % 50 == 0) {
                Check.due("he who gave", x.net(0), 10000 - 7 * n);
                Check.due("to whom", x.net(1), 10000 + 7 * n);
                Check.due("the third", x.net(2), 10000);
            }
        }
        Check.due("back", x.give(1, 0, 14), 0);
        Check.due("less", x.net(1), 11386);
        x.undo();
        Check.due("undone", x.net(1), 11400);
        Check.due("laid anew", x.lay(), 3);
        Check.due("since then", x.net(1), 10000);
        Check.due("a refused one", x.give(1, 0, 1), NO);
        Check.due("does not count", x.net(1), 10000);
    }

    /** 'HEARD: how much all SUFFERED so far, together; of a PERSON.' */
    private static void heardSoFar() {
        RudeCoupons x = Check.laid("p2,15,9;" + "p0,0,0;".repeat(4) + "p0,0,8;" + "d1,3,9;" + "o0,0,0;".repeat(10));
        for (int k = 0; k < 10; k++) {
            x.take(k);
            Check.due("heard by 1", x.heard(1), 9 * (k + 1));
            Check.due("heard by 5", x.heard(5), k + 1);
            Check.due("heard by the rude one", x.heard(0), 0);
            Check.due("heard by all", x.heard(-1), 37 * (k + 1));
        }
        x.undo();
        Check.due("one less", x.heard(-1), 333);
        x.lay();
        Check.due("laid anew", x.heard(-1), 0);
    }

    /** Bits of the OCCASIONS that are taken in a YEAR by z; worked out outside Java. */
    private static final int[][] DRAWN = {{0, 998}, {1, 879}, {2, 999}, {9998, 878}, {9999, 1020}};

    /** 'A YEAR by z (0 to 9999)', 'if DRAW modulo 4 is not 0'. */
    private static void yearByDraws() {
        String head = "p2,15,0;d1,1,0;d2,1,0;d4,1,0;d8,1,0;d16,1,0;d0,1,0;";
        String told = "o0,0,0;o0,0,1;o0,0,2;o0,0,3;o0,0,4;";
        String idle = "o0,0,5;".repeat(5);
        RudeCoupons low = Check.laid(head + told + idle);
        RudeCoupons high = Check.laid(head + idle + told);
        for (int[] drawn : DRAWN) {
            Check.due("year(" + drawn[0] + ", 0), 0 to 4", low.year(drawn[0], 0), drawn[1] & 31);
            Check.due("year(" + drawn[0] + ", 0), 5 to 9", high.year(drawn[0], 0), drawn[1] >> 5);
            Check.due("year(" + drawn[0] + ", 1)", low.year(drawn[0], 1), 15 - Integer.bitCount(drawn[1]));
        }
        for (int bad : new int[] {-1, 10000}) {
            Check.due("year(" + bad + ", 0)", low.year(bad, 0), BAD);
            Check.due("year(" + bad + ", 1)", low.year(bad, 1), BAD);
        }
        for (int bad : new int[] {-1, 2}) {
            Check.due("year(0, " + bad + ")", low.year(0, bad), BAD);
        }
    }

    /** 'by DAYS, on one DAY by number, is taken, if it can be'; by 9999 all from 2 on are drawn. */
    private static void yearTakesWhatCanBe() {
        String idle = "d0,1,0;d1,3,0;d2,2,0;d4,1,0;";
        yearOf("p0,3,0;p0,0,0;" + idle + "o0,1,0;o0,1,0;o5,0,1;o4,0,2;o4,0,3;", 6, 0);
        yearOf("p0,3,0;p0,0,0;" + idle + "o0,1,0;o0,1,0;o5,0,3;o4,0,1;o4,0,2;", 1, 0);
        yearOf("p0,2,0;p0,0,0;" + idle + "o0,1,0;o0,1,0;o5,0,3;o4,0,1;o4,0,2;", 2, 0);
        yearOf("p3,3,0;p0,0,0;" + idle + "o0,1,0;o0,1,0;o5,0,3;o4,0,1;o4,0,2;", 2, 1);
        yearOf("p1,5,0;p0,0,0;" + idle + "o0,1,0;o0,1,0;o5,0,3;o4,0,1;o4,0,2;", 2, 1);
        yearOf("p2,9,0;p0,0,0;" + idle + "o0,1,0;o0,1,0;o5,0,3;o4,0,1;o4,0,2;", 3, 7);
        yearOf("p0,0,0;p0,0,0;" + idle + "o0,1,0;o0,1,0;o5,0,3;o4,0,1;o4,0,2;", 0, 0);
    }

    private static void yearByDaysHoweverTold() {
        // One COUPON alone: he takes what comes first by DAYS, however these are told.
        int[][] days = {{1, 2, 3, 4}, {4, 3, 2, 1}, {2, 4, 1, 3}, {3, 1, 4, 2}, {4, 1, 2, 3}, {2, 3, 4, 1}, {5, 5, 5, 5}, {6, 5, 6, 5}};
        int[] first = {0, 3, 2, 1, 1, 3, 0, 1};
        for (int row = 0; row < days.length; row++) {
            StringBuilder told = new StringBuilder("p0,1,0;p0,0,0;d1,1,0;d2,1,0;d4,1,0;d8,1,0;o0,1,0;o0,1,0;");
            for (int k = 0; k < 4; k++) {
                told.append('o').append(days[row][k]).append(",0,").append(k).append(';');
            }
            yearOf(told.toString(), 1 << first[row], 0);
        }
        // By 2 the first two are drawn as well.
        Check.due("told the other way", Check.laid("p0,1,0;d1,1,0;d2,1,0;o5,0,0;o4,0,1;").year(2, 0), 2);
        Check.due("told in order", Check.laid("p0,1,0;d1,1,0;d2,1,0;o4,0,0;o5,0,1;").year(2, 0), 1);
    }

    private static void yearOf(String told, int worth, int left) {
        RudeCoupons x = Check.laid(told);
        Check.due("year(9999, 0) of " + told, x.year(9999, 0), worth);
        Check.due("year(9999, 1) of " + told, x.year(9999, 1), left);
    }

    /** 'each OCCASION from today on, not taken'. */
    private static void yearFromTodayOn() {
        RudeCoupons x = Check.laid("p0,9,0;d1,1,0;d2,1,0;d4,1,0;o9,0,0;o9,0,0;o0,0,0;o1,0,1;o2,0,2;");
        Check.due("all that are drawn", x.year(9999, 0), 7);
        x.take(2);
        Check.due("not what is taken", x.year(9999, 0), 6);
        Check.due("left", x.year(9999, 1), 6);
        x.pass(1);
        Check.due("today is in", x.year(9999, 0), 6);
        x.pass(1);
        Check.due("yesterday is not", x.year(9999, 0), 4);
        x.pass(8);
        Check.due("nothing ahead", x.year(9999, 0), 0);
        Check.due("none gone", x.year(9999, 1), 8);
    }

    private static void yearOfNothing() {
        for (int z : new int[] {0, 9999}) {
            Check.due("of nothing", States.bare().year(z, 0), 0);
            Check.due("of nothing, left", States.bare().year(z, 1), 0);
            Check.due("on day 99", States.full().year(z, 0), 0);
            Check.due("on day 99, left", States.full().year(z, 1), 90);
        }
    }

    private static void askingChangesNothing() {
        Refused used = new Refused("used", States::used);
        used.call("letGo(99, 0)", x -> x.letGo(99, 0), States.used().letGo(99, 0));
        used.call("keepOne(3, 9, 9)", x -> x.keepOne(3, 9, 9), States.used().keepOne(3, 9, 9));
        used.call("year(9999, 0)", x -> x.year(9999, 0), States.used().year(9999, 0));
        used.call("heard(-1)", x -> x.heard(-1), States.used().heard(-1));
        used.call("without()", RudeCoupons::without, States.used().without());
    }
}
