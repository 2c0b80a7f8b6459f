/** The edges of part 3 and of promises 14 to 18: each method is for one sentence of the document. */
public final class PlansEdgesTest {
    private static final int BAD = RudeCoupons.BAD, NONE = RudeCoupons.NONE;

    public static void main(String[] args) {
        bestForWhichCouponsDo();
        bestOnOddDays();
        bestIsHisOwn();
        bestFromTodayOn();
        bestOfNothing();
        bestOfAllTen();
        bestOfSeveralIsTheLowest();
        bestLeavesWhatIsWorthNothing();
        moreByOneCoupon();
        moreOfFifteen();
        giveGrowsByOneOrMore();
        giveNeedsAGiver();
        giveOfSeveralIsTheFirst();
        giveIsEightTimesTheOne();
        giveNoneOrBad();
        sharedOfNoneAndAll();
        sharedIsFifteenAtMost();
        sharedOfSeveralIsTheFirst();
        sharedPartsAll();
        rationIsTheGreatest();
        rationOfTheMostThatCanBeSuffered();
        rationIsByThatAlone();
        rationIsZeroToFifteen();
        refusedQuestions();
        askingChangesNothing();
        Check.end();
    }

    private static int affordable(int kind, int n, int coupons) {
        switch (kind) {
            case 0: return coupons / n;
            case 1: return coupons / (2 * n);
            case 2: return coupons;
            default: return coupons < 1 ? 0 : (coupons - 1) / n;
        }
    }

    /** 'of all sets of his OCCASIONS .. for which his COUPONS do (.. each as in 2), that of most WORTH'. */
    private static void bestForWhichCouponsDo() {
        for (int kind = 0; kind <= 3; kind++) {
            for (int n = 1; n <= 3; n++) {
                for (int coupons = 0; coupons <= 15; coupons++) {
                    String told = "p" + kind + "," + coupons + ",0;d7," + n + ",0;" + "o2,0,0;".repeat(10);
                    RudeCoupons x = Check.laid(told);
                    int times = Math.min(10, affordable(kind, n, coupons));
                    int then = Math.min(10, affordable(kind, n, coupons + 1));
                    Check.due("best(0, 0) of " + told, x.best(0, 0), 7 * times);
                    Check.due("best(0, 1) of " + told, x.best(0, 1), (1 << times) - 1);
                    Check.due("more(0) of " + told, x.more(0), coupons == 15 ? 0 : 7 * (then - times));
                    Check.due("shared(-1) of " + told, x.shared(-1), 7 * times);
                }
            }
        }
    }

    private static void bestOnOddDays() {
        for (int day = 0; day <= 60; day++) {
            RudeCoupons x = Check.laid("p2,1,0;p0,1,0;d7,3,0;d5,1,0;o" + day + ",0,0;o" + day + ",1,1;");
            Check.due("a guest on " + day, x.best(0, 0), day % 2 == 0 ? 7 : 0);
            Check.due("his set on " + day, x.best(0, 1), day % 2 == 0 ? 1 : 0);
            Check.due("a grown one on " + day, x.best(1, 0), 5);
        }
    }

    private static void bestIsHisOwn() {
        RudeCoupons x = Check.laid("p0,15,0;".repeat(6) + "d1,1,0;d2,1,0;" + "o0,0,0;o0,5,0;o1,5,1;o2,0,1;o3,4,0;");
        int[] worth = {3, 0, 0, 0, 1, 3};
        int[] set = {9, 0, 0, 0, 16, 6};
        for (int i = 0; i < 6; i++) {
            Check.due("best(" + i + ", 0)", x.best(i, 0), worth[i]);
            Check.due("best(" + i + ", 1)", x.best(i, 1), set[i]);
        }
    }

    /** 'from today on, not taken'. */
    private static void bestFromTodayOn() {
        RudeCoupons x = Check.laid("p0,15,0;d1,1,0;d2,1,0;d4,1,0;o0,0,0;o1,0,1;o60,0,2;");
        Check.due("all", x.best(0, 1), 7);
        x.take(0);
        Check.due("not what is taken today", x.best(0, 1), 6);
        x.pass(1);
        Check.due("today is in", x.best(0, 1), 6);
        x.pass(1);
        Check.due("yesterday is not", x.best(0, 1), 4);
        x.pass(29);
        x.pass(29);
        Check.due("the last day is in", x.best(0, 0), 4);
        x.pass(1);
        Check.due("behind it nothing is", x.best(0, 0), 0);
        Check.due("no set", x.best(0, 1), 0);
        Check.due("none is worth more", x.more(0), 0);
        x.undo();
        Check.due("today again", x.best(0, 0), 4);
    }

    private static void bestOfNothing() {
        RudeCoupons x = States.bare();
        Check.due("best(0, 0)", x.best(0, 0), 0);
        Check.due("best(0, 1)", x.best(0, 1), 0);
        Check.due("more(0)", x.more(0), 0);
        Check.due("giveBest(0)", x.giveBest(0), NONE);
        Check.due("shared(-1)", x.shared(-1), 0);
        Check.due("shared(0)", x.shared(0), 0);
        Check.due("rationFor(0)", x.rationFor(0), 15);
    }

    private static void bestOfAllTen() {
        RudeCoupons x = Check.laid("p2,15,0;d30,3,9;" + "o0,0,0;".repeat(10));
        Check.due("300", x.best(0, 0), 300);
        Check.due("1023", x.best(0, 1), 1023);
        x.ration(9);
        Check.due("one short", x.best(0, 1), 511);
    }

    /** 'of several the lowest (as bits by OCCASIONS)'. */
    private static void bestOfSeveralIsTheLowest() {
        String doings = "d3,1,0;d6,2,0;d9,3,0;";
        setOf("p0,3,0;" + doings + "o9,0,2;o8,0,1;o7,0,0;", 9, 1);
        setOf("p0,3,0;" + doings + "o9,0,0;o8,0,1;o7,0,2;", 9, 3);
        setOf("p0,1,0;" + doings + "o9,0,0;o0,0,0;", 3, 1);
        setOf("p0,4,0;" + doings + "o0,0,1;o0,0,1;o0,0,1;", 12, 3);
        setOf("p0,2,0;" + doings + "o0,0,1;o0,0,0;o0,0,0;", 6, 1);
        setOf("p0,2,0;" + doings + "o0,0,0;o0,0,0;o0,0,1;", 6, 3);
        setOf("p0,2,0;" + doings + "o0,0,0;o0,0,1;o0,0,0;", 6, 2);
    }

    private static void setOf(String told, int worth, int set) {
        RudeCoupons x = Check.laid(told);
        Check.due("best(0, 0) of " + told, x.best(0, 0), worth);
        Check.due("best(0, 1) of " + told, x.best(0, 1), set);
    }

    private static void bestLeavesWhatIsWorthNothing() {
        setOf("p0,15,0;d0,1,0;" + "o0,0,0;".repeat(10), 0, 0);
        setOf("p0,15,0;d0,1,0;d1,1,0;o0,0,0;o0,0,1;o0,0,0;", 1, 2);
    }

    /** 'MORE: how much more BEST would be with one COUPON more'. */
    private static void moreByOneCoupon() {
        RudeCoupons x = Check.laid("p0,0,0;d5,1,0;d12,2,0;o0,0,0;o0,0,1;");
        int[] more = {5, 7, 5, 0, 0, 0, 0, 0, 0, 0, 0, 0, 0, 0, 0, 0};
        for (int r = 0; r <= 15; r++) {
            x.ration(r);
            Check.due("more with " + r, x.more(0), more[r]);
        }
    }

    /** '(0, if he has 15)'. */
    private static void moreOfFifteen() {
        RudeCoupons x = Check.laid("p2,15,0;p0,15,0;p0,14,0;d5,1,0;d5,3,0;"
                + "o0,0,0;".repeat(2) + "o0,1,1;o0,1,1;o0,1,1;o0,1,1;o0,1,1;o0,1,1;" + "o0,2,0;".repeat(2));
        Check.due("a guest's sixteenth", x.more(0), 0);
        Check.due("a sixth for 18", x.more(1), 0);
        Check.due("a fifteenth of no use", x.more(2), 0);
        RudeCoupons thrifty = Check.laid("p3,15,0;d5,3,0;" + "o0,0,0;".repeat(10));
        Check.due("a sixteenth would do", thrifty.more(0), 0);
        RudeCoupons fourteen = Check.laid("p0,14,0;d5,3,0;" + "o0,0,0;".repeat(10));
        Check.due("the fifteenth", fourteen.more(0), 5);
    }

    /** 'none (it grows by none)'. */
    private static void giveGrowsByOneOrMore() {
        for (int worth = 0; worth <= 30; worth++) {
            RudeCoupons x = Check.laid("p0,1,0;p0,0,0;d15,1,0;d" + worth + ",1,0;o0,0,0;o0,1,1;");
            boolean grows = worth > 15;
            Check.due("to one of " + worth, x.giveBest(0), grows ? 1 : NONE);
            Check.due("by how much of " + worth, x.giveBest(1), grows ? worth - 15 : NONE);
        }
    }

    private static void giveNeedsAGiver() {
        RudeCoupons x = Check.laid("p0,0,0;p0,0,0;d15,1,0;o0,0,0;o0,1,0;");
        Check.due("none has one", x.giveBest(0), NONE);
        RudeCoupons one = Check.laid("p0,0,0;p0,0,0;p0,1,0;d15,1,0;o0,1,0;");
        Check.due("the third has", one.giveBest(0), 17);
        RudeCoupons alone = Check.laid("p0,1,0;d15,2,0;o0,0,0;");
        Check.due("alone, though he has use for it", alone.giveBest(0), NONE);
        RudeCoupons full = Check.laid("p0,15,0;p0,15,0;d15,3,0;" + "o0,0,0;".repeat(10));
        Check.due("no room", full.giveBest(0), NONE);
        RudeCoupons last = Check.laid("p0,14,0;p0,15,0;d15,3,0;" + "o0,0,0;".repeat(10));
        Check.due("room for one", last.giveBest(0), 8);
        Check.due("it is the fifteenth", last.giveBest(1), 15);
    }

    /** 'of several the first (8 times the one and the other)'. */
    private static void giveOfSeveralIsTheFirst() {
        RudeCoupons x = Check.laid("p0,1,0;p0,1,0;p0,0,0;p0,0,0;d5,1,0;d4,1,0;o0,2,0;o0,3,0;o0,1,1;");
        Check.due("the first giver, the first other", x.giveBest(0), 2);
        x.give(0, 2, 1);
        Check.due("the first other is served", x.giveBest(0), 11);
        Check.due("by one only", x.giveBest(1), 1);
        RudeCoupons late = Check.laid("p0,1,0;p0,0,0;p0,1,0;d5,1,0;d6,1,0;o0,1,1;o0,0,0;");
        Check.due("a later one, by more", late.giveBest(0), 17);
    }

    private static void giveIsEightTimesTheOne() {
        for (int i = 0; i < 6; i++) {
            for (int j = 0; j < 6; j++) {
                if (i != j) {
                    StringBuilder told = new StringBuilder();
                    for (int p = 0; p < 6; p++) {
                        told.append(p == i ? "p0,1,0;" : "p0,0,0;");
                    }
                    RudeCoupons x = Check.laid(told + "d3,1,0;o0," + j + ",0;");
                    Check.due(i + " to " + j, x.giveBest(0), 8 * i + j);
                    Check.due(i + " to " + j + " by", x.giveBest(1), 3);
                }
            }
        }
    }

    /** giveBest: 'NONE; BAD', the first by the order of 'Terms'. */
    private static void giveNoneOrBad() {
        Refused bare = new Refused("bare", States::bare);
        bare.call("giveBest(0)", x -> x.giveBest(0), NONE);
        bare.call("giveBest(1)", x -> x.giveBest(1), NONE);
        for (int bad : new int[] {-1, 2, Integer.MIN_VALUE, Integer.MAX_VALUE}) {
            bare.call("BAD ahead of NONE, giveBest(" + bad + ")", x -> x.giveBest(bad), BAD);
        }
    }

    private static void sharesOf(String told, int worth, int... shares) {
        RudeCoupons x = Check.laid(told);
        Check.due("shared(-1) of " + told, x.shared(-1), worth);
        for (int i = 0; i < shares.length; i++) {
            Check.due("shared(" + i + ") of " + told, x.shared(i), shares[i]);
        }
    }

    private static void sharedOfNoneAndAll() {
        sharesOf("p0,0,0;p0,0,0;d9,1,0;o0,0,0;o0,1,0;", 0, 0, 0);
        sharesOf("p0,15,0;".repeat(6) + "d9,3,0;o0,5,0;", 9, 15, 15, 15, 15, 15, 15);
        sharesOf("p0,15,0;".repeat(5) + "p0,14,0;" + "d9,3,0;" + "o0,5,0;".repeat(5), 45, 15, 15, 15, 15, 14, 15);
        sharesOf("p0,0,0;", 0, 0);
        sharesOf("p0,15,0;", 0, 15);
    }

    /** 'all ways to part all COUPONS among PERSONS (15 at most with each)'. */
    private static void sharedIsFifteenAtMost() {
        for (int c = 0; c <= 15; c++) {
            int all = 15 + c;
            sharesOf("p0,15,0;p0," + c + ",0;", 0, 15, c);
            sharesOf("p0," + c + ",0;p0,15,0;p0,0,0;", 0, 15, all - 15, 0);
        }
        sharesOf("p0,9,0;p0,9,0;d30,3,0;" + "o0,1,0;".repeat(10), 150, 3, 15);
    }

    /** 'of several the first (by PERSON 0's, the most, then 1's, ..)'. */
    private static void sharedOfSeveralIsTheFirst() {
        sharesOf("p0,1,0;p0,1,0;p0,1,0;d5,1,0;o0,2,0;o0,1,0;o0,0,0;", 15, 1, 1, 1);
        sharesOf("p0,0,0;p0,1,0;p0,1,0;d5,1,0;o0,2,0;o0,1,0;o0,0,0;", 10, 1, 1, 0);
        sharesOf("p0,0,0;p0,0,0;p0,1,0;d5,1,0;o0,2,0;o0,1,0;", 5, 0, 1, 0);
        sharesOf("p0,0,0;p0,0,0;p0,3,0;d5,1,0;o0,2,0;", 5, 2, 0, 1);
        sharesOf("p0,0,0;p0,0,0;p0,3,0;d5,1,0;d6,1,0;o0,2,0;o0,1,1;", 11, 1, 1, 1);
    }

    private static void sharedPartsAll() {
        RudeCoupons x = States.used();
        int sum = 0;
        for (int i = 0; i < 4; i++) {
            sum += x.shared(i);
        }
        Check.due("all are shared out", sum, x.count(5));
        Check.due("none less than now", Math.min(0, x.shared(-1) - x.best(0, 0) - x.best(1, 0) - x.best(2, 0) - x.best(3, 0)), 0);
    }

    /** 'the greatest r (0 to 15) by which .. all SUFFER s or less'. */
    private static void rationIsTheGreatest() {
        RudeCoupons x = Check.laid("p0,0,9;p0,0,0;d9,1,5;" + "o0,0,0;".repeat(10));
        for (int s = 0; s <= 60; s++) {
            Check.due("rationFor(" + s + ")", x.rationFor(s), s >= 50 ? 15 : s / 5);
        }
        // With 1 a COUPON goes for what annoys by 9, with 2 both go for what annoys none.
        RudeCoupons dips = Check.laid("p0,0,9;p0,0,0;d5,1,9;d20,2,0;o0,0,0;o0,0,1;");
        Check.due("2, though 1 is too much", dips.rationFor(0), 2);
        Check.due("2, though 1 is too much, by 8", dips.rationFor(8), 2);
        Check.due("by 9", dips.rationFor(9), 15);
    }

    private static void rationOfTheMostThatCanBeSuffered() {
        RudeCoupons x = Check.laid("p2,0,0;" + "p0,0,0;".repeat(5) + "d9,3,9;" + "o0,0,0;".repeat(10));
        Check.due("449", x.rationFor(449), 9);
        Check.due("450", x.rationFor(450), 15);
        Check.due("45", x.rationFor(45), 1);
        Check.due("44", x.rationFor(44), 0);
        Check.due("0", x.rationFor(0), 0);
        Check.due("999", x.rationFor(999), 15);
    }

    /** 'each having r now and doing his BEST (that set), all SUFFER s or less by that together'. */
    private static void rationIsByThatAlone() {
        RudeCoupons x = Check.laid("p0,9,0;p0,9,0;d9,1,5;o0,0,0;o0,1,0;o1,0,0;");
        Check.due("5 for each of three", x.rationFor(15), 15);
        Check.due("10 of the first", x.rationFor(14), 1);
        Check.due("none", x.rationFor(9), 0);
        x.take(0);
        Check.due("not what is taken", x.rationFor(10), 15);
        x.pass(1);
        Check.due("not what is past", x.rationFor(5), 15);
        Check.due("but what is today", x.rationFor(4), 0);
        Check.due("coupons stay", x.count(5), 17);
    }

    /** 'RATION for s (0 to 999)'. */
    private static void rationIsZeroToFifteen() {
        RudeCoupons x = new RudeCoupons();
        for (int s : new int[] {-1, 1000, Integer.MIN_VALUE, Integer.MAX_VALUE}) {
            Check.due("rationFor(" + s + ")", x.rationFor(s), BAD);
        }
        Check.due("rationFor(0)", x.rationFor(0), 0);
        Check.due("rationFor(999)", x.rationFor(999), 15);
    }

    private static void refusedQuestions() {
        Refused used = new Refused("used", States::used);
        for (int bad : new int[] {-2, 4, 6, Integer.MIN_VALUE, Integer.MAX_VALUE}) {
            used.call("best(" + bad + ", 0)", x -> x.best(bad, 0), BAD);
            used.call("best(0, " + bad + ")", x -> x.best(0, bad), BAD);
            used.call("more(" + bad + ")", x -> x.more(bad), BAD);
            used.call("shared(" + bad + ")", x -> x.shared(bad), BAD);
            used.call("giveBest(" + bad + ")", x -> x.giveBest(bad), BAD);
        }
        used.call("best(-1, 0)", x -> x.best(-1, 0), BAD);
        used.call("best(0, -1)", x -> x.best(0, -1), BAD);
        used.call("best(0, 2)", x -> x.best(0, 2), BAD);
        used.call("more(-1)", x -> x.more(-1), BAD);
        used.call("rationFor(-1)", x -> x.rationFor(-1), BAD);
        used.call("rationFor(1000)", x -> x.rationFor(1000), BAD);
    }

    private static void askingChangesNothing() {
        Refused used = new Refused("used", States::used);
        used.call("best(0, 0)", x -> x.best(0, 0), States.used().best(0, 0));
        used.call("more(0)", x -> x.more(0), States.used().more(0));
        used.call("shared(-1)", x -> x.shared(-1), States.used().shared(-1));
        used.call("giveBest(0)", x -> x.giveBest(0), States.used().giveBest(0));
        used.call("rationFor(9)", x -> x.rationFor(9), States.used().rationFor(9));
    }
}
