/** The edges of part 2 and of promises 9 to 13: each method is for one sentence of the document. */
public final class DaysEdgesTest {
    private static final int BAD = RudeCoupons.BAD, NO = RudeCoupons.NO, FULL = RudeCoupons.FULL;
    private static final int GROWN = 0, CHILD = 1, GUEST = 2, THRIFTY = 3;

    public static void main(String[] args) {
        takesByKind();
        takenOnItsDayAlone();
        takenOnce();
        takenOnTheLastDay();
        hasItsWorth();
        eachOtherSuffers();
        refusedTakes();
        daysAreUpTo99();
        refusedPasses();
        passedDaysAreOneToThirty();
        givenByAllNumbers();
        refusedGifts();
        rationedByAllNumbers();
        rationLeavesNetAndHeard();
        refusedRations();
        theLatestIsUndone();
        theLastEightCanBeUndone();
        eightTimesEachKind();
        manyMoreThanEight();
        askingIsNoStep();
        refusedIsNoStep();
        refusedUndo();
        Check.end();
    }

    /** 'of a GROWN one N; of a CHILD twice that; of a GUEST 1, whatever it is; of a THRIFTY one N'. */
    private static final int[][] COST = {{1, 2, 3}, {2, 4, 6}, {1, 1, 1}, {1, 2, 3}};

    private static void takesByKind() {
        for (int kind = GROWN; kind <= THRIFTY; kind++) {
            for (int n = 1; n <= 3; n++) {
                for (int coupons = 0; coupons <= 15; coupons++) {
                    takes(kind, n, coupons, 4);
                    takes(kind, n, coupons, 5);
                }
            }
        }
    }

    private static void takes(int kind, int n, int coupons, int day) {
        String told = "p" + kind + "," + coupons + ",0;d7," + n + ",2;o" + day + ",0,0;";
        RudeCoupons x = Check.laid(told);
        x.pass(day);
        int left = coupons - COST[kind][n - 1];
        boolean can = left >= (kind == THRIFTY ? 1 : 0) && (kind != GUEST || day % 2 == 0);
        Check.due("can, " + told, x.occasion(0, 4), can ? 1 : 0);
        Check.due("take, " + told, x.take(0), can ? left : NO);
        Check.due("left, " + told, x.person(0, 1), can ? left : coupons);
        Check.due("had, " + told, x.person(0, 3), can ? 7 : 0);
        Check.due("is taken, " + told, x.occasion(0, 3), can ? 1 : 0);
        Check.due("taken, " + told, x.count(4), can ? 1 : 0);
        Check.due("to be undone, " + told, x.count(7), can ? 2 : 1);
    }

    /** 'An OCCASION is taken by doing what it is for, once, on its DAY.' */
    private static void takenOnItsDayAlone() {
        for (int day = 0; day <= 60; day += 20) {
            for (int today = 0; today <= 61; today++) {
                RudeCoupons x = Check.laid("p0,9,0;d7,2,0;o" + day + ",0,0;");
                goTo(x, today);
                Check.due("day " + day + " can on " + today, x.occasion(0, 4), day == today ? 1 : 0);
                Check.due("day " + day + " on " + today, x.take(0), day == today ? 7 : NO);
            }
        }
    }

    private static void goTo(RudeCoupons x, int day) {
        for (int n = 0; n < 4 && x.count(3) < day; n++) {
            x.pass(Math.min(30, day - x.count(3)));
        }
        Check.due("it is day", x.count(3), day);
    }

    private static void takenOnce() {
        RudeCoupons x = Check.laid("p0,15,0;d7,2,0;" + "o0,0,0;".repeat(7));
        for (int k = 0; k < 7; k++) {
            Check.due("the first time", x.take(k), 13 - 2 * k);
            Check.due("the second", x.take(k), NO);
        }
        Check.due("all", x.count(4), 7);
        Check.due("one is left", x.person(0, 1), 1);
        x.undo();
        Check.due("undone, once more", x.take(6), 1);
        RudeCoupons ten = Check.laid("p2,15,0;d1,3,0;" + "o0,0,0;".repeat(10));
        for (int k = 9; k >= 0; k--) {
            Check.due("of ten", ten.take(k), 5 + k);
        }
        Check.due("all ten", ten.count(4), 10);
    }

    private static void takenOnTheLastDay() {
        RudeCoupons x = Check.laid(States.FULLEST);
        goTo(x, 59);
        Check.due("a day ahead", x.take(9), NO);
        x.pass(1);
        Check.due("on day 60", x.take(9), 12);
        x.pass(1);
        Check.due("a day behind", x.take(8), NO);
    }

    /** 'He HAS its WORTH'. */
    private static void hasItsWorth() {
        RudeCoupons x = Check.laid("p2,15,0;p0,9,0;d30,3,0;d0,1,0;" + "o0,0,0;".repeat(9) + "o0,1,1;");
        for (int k = 0; k < 9; k++) {
            x.take(k);
            Check.due("had of " + k, x.person(0, 3), 30 * (k + 1));
        }
        x.take(9);
        Check.due("of worth 0", x.person(1, 3), 0);
        Check.due("is taken though", x.count(4), 10);
    }

    /** 'each other PERSON SUFFERS A, less that one's SKIN (0 at least)'. */
    private static void eachOtherSuffers() {
        for (int annoys = 0; annoys <= 9; annoys++) {
            for (int skin = 0; skin <= 9; skin++) {
                RudeCoupons x = Check.laid("p0,9,0;p0,9," + skin + ";p0,9,9;d1,1," + annoys + ";o0,0,0;o0,1,0;");
                int want = Math.max(0, annoys - skin);
                x.take(0);
                Check.due(annoys + " less " + skin, x.heard(1), want);
                Check.due("not he himself", x.heard(0), 0);
                Check.due("all", x.heard(-1), want);
                x.take(1);
                Check.due("the other's", x.heard(0), annoys);
                Check.due("not he himself either", x.heard(1), want);
                Check.due("skin of 9", x.heard(2), 0);
                Check.due("all of both", x.heard(-1), want + annoys);
            }
        }
        Check.due("alone none suffers", aloneHears(), 0);
    }

    private static int aloneHears() {
        RudeCoupons x = Check.laid("p0,9,0;d1,1,9;o0,0,0;");
        x.take(0);
        return x.heard(-1);
    }

    /** take: 'BAD; NO: it can not be.' */
    private static void refusedTakes() {
        Refused used = new Refused("used", States::used);
        used.call("taken before", x -> x.take(1), NO);
        used.call("of yesterday", x -> x.take(0), NO);
        used.call("of tomorrow", x -> x.take(3), NO);
        for (int bad : new int[] {-1, 9, 10, 32, Integer.MIN_VALUE, Integer.MAX_VALUE}) {
            used.call("take(" + bad + ")", x -> x.take(bad), BAD);
        }
        new Refused("too few", () -> Check.laid("p0,1,0;p0,1,0;d9,2,9;o0,0,0;")).call("take(0)", x -> x.take(0), NO);
        new Refused("none left then", () -> Check.laid("p3,2,0;p0,1,0;d9,2,9;o0,0,0;")).call("take(0)", x -> x.take(0), NO);
        new Refused("an odd day", () -> {
            RudeCoupons x = Check.laid("p2,9,0;p0,1,0;d9,2,9;o1,0,0;");
            x.pass(1);
            return x;
        }).call("take(0)", x -> x.take(0), NO);
        new Refused("no occasion", States::bare).call("take(0)", x -> x.take(0), BAD);
    }

    /** 'DAYS are 0 to 99'; pass: 'NO: above 99'. */
    private static void daysAreUpTo99() {
        for (int n = 1; n <= 30; n++) {
            for (int day = 99 - n - 1; day <= 99; day++) {
                RudeCoupons x = new RudeCoupons();
                goTo(x, day);
                int want = day + n <= 99 ? day + n : NO;
                Check.due("pass(" + n + ") on " + day, x.pass(n), want);
                Check.due("the day then", x.count(3), Math.max(want, day));
            }
        }
    }

    private static void refusedPasses() {
        Refused last = new Refused("full", States::full);
        last.call("pass(1) on 99", x -> x.pass(1), NO);
        last.call("pass(30) on 99", x -> x.pass(30), NO);
        last.call("BAD ahead of NO, above", x -> x.pass(31), BAD);
        last.call("BAD ahead of NO, far above", x -> x.pass(Integer.MAX_VALUE), BAD);
        last.call("BAD, below", x -> x.pass(0), BAD);
        Refused used = new Refused("used", States::used);
        for (int bad : new int[] {0, -1, 31, 99, Integer.MIN_VALUE, Integer.MAX_VALUE}) {
            used.call("pass(" + bad + ")", x -> x.pass(bad), BAD);
        }
        new Refused("on 98", () -> {
            RudeCoupons x = new RudeCoupons();
            goTo(x, 98);
            return x;
        }).call("pass(2)", x -> x.pass(2), NO);
    }

    /** pass: 'n (1 to 30) DAYS go by: which it is.' */
    private static void passedDaysAreOneToThirty() {
        for (int n = -2; n <= 33; n++) {
            Check.due("pass(" + n + ")", new RudeCoupons().pass(n), n >= 1 && n <= 30 ? n : BAD);
        }
    }

    /** 'COUPONS can be GIVEN (15 at most with each)'; give: 'BAD (alike, too); NO: not so many; FULL.' */
    private static void givenByAllNumbers() {
        for (int has = 0; has <= 15; has++) {
            for (int other = 0; other <= 15; other++) {
                String people = "p0," + has + ",0;p0," + other + ",0;";
                for (int c = 0; c <= 16; c++) {
                    int want = c < 1 || c > 15 ? BAD : c > has ? NO : c + other > 15 ? FULL : has - c;
                    RudeCoupons x = Check.laid(people);
                    Check.due(c + " of " + people, x.give(0, 1, c), want);
                    int given = want < 0 ? 0 : c;
                    Check.due("his then", x.person(0, 1), has - given);
                    Check.due("the other's", x.person(1, 1), other + given);
                    Check.due("his net", x.net(0), 10000 - given);
                    Check.due("the other's net", x.net(1), 10000 + given);
                }
            }
        }
    }

    private static void refusedGifts() {
        Refused used = new Refused("used", States::used);
        used.call("not so many", x -> x.give(0, 1, 2), NO);
        used.call("alike", x -> x.give(1, 1, 1), BAD);
        used.call("alike ahead of NO", x -> x.give(0, 0, 15), BAD);
        used.call("none of them", x -> x.give(1, 0, 0), BAD);
        used.call("sixteen, BAD ahead of NO", x -> x.give(1, 0, 16), BAD);
        used.call("no such giver", x -> x.give(4, 0, 1), BAD);
        used.call("no such other", x -> x.give(0, 4, 1), BAD);
        used.call("BAD ahead of NO", x -> x.give(0, 4, 15), BAD);
        used.call("-1 of them", x -> x.give(1, 0, -1), BAD);
        used.call("the least", x -> x.give(1, 0, Integer.MIN_VALUE), BAD);
        Refused full = new Refused("full", States::full);
        full.call("no room for one", x -> x.give(0, 1, 1), FULL);
        full.call("no room for fifteen", x -> x.give(5, 0, 15), FULL);
        full.call("BAD ahead of FULL", x -> x.give(0, 1, 16), BAD);
        full.call("alike ahead of FULL", x -> x.give(3, 3, 1), BAD);
        new Refused("one has all", () -> Check.laid("p0,1,0;p0,15,0;")).call("NO ahead of FULL", x -> x.give(0, 1, 2), NO);
        new Refused("one of one", States::bare).call("alike, and not so many", x -> x.give(0, 0, 1), BAD);
    }

    /** 'all be RATIONED: each has r (0 to 15) COUPONS then'; ration: 'how many COUPONS all had. BAD.' */
    private static void rationedByAllNumbers() {
        for (int r = -2; r <= 18; r++) {
            boolean is = r >= 0 && r <= 15;
            for (int n = 1; n <= 6; n++) {
                RudeCoupons x = Check.laid("p1,7,0;".repeat(n));
                Check.due("ration(" + r + ") of " + n, x.ration(r), is ? 7 * n : BAD);
                Check.due("all then", x.count(5), is ? r * n : 7 * n);
                for (int i = 0; i < n; i++) {
                    Check.due("each", x.person(i, 1), is ? r : 7);
                }
            }
        }
        RudeCoupons most = Check.laid("p0,15,0;".repeat(6));
        Check.due("ninety", most.ration(0), 90);
        Check.due("none", most.ration(0), 0);
    }

    private static void rationLeavesNetAndHeard() {
        RudeCoupons x = States.used();
        int heard = x.heard(-1);
        int had = x.person(0, 3);
        x.ration(15);
        Check.due("net", x.net(3), 10001);
        Check.due("net of the giver", x.net(1), 9999);
        Check.due("heard", x.heard(-1), heard);
        Check.due("had", x.person(0, 3), had);
        Check.due("taken", x.count(4), 2);
    }

    private static void refusedRations() {
        Refused used = new Refused("used", States::used);
        for (int bad : new int[] {-1, 16, Integer.MIN_VALUE, Integer.MAX_VALUE}) {
            used.call("ration(" + bad + ")", x -> x.ration(bad), BAD);
        }
    }

    /** 'UNDONE is the latest of these, of what was done'. */
    private static void theLatestIsUndone() {
        String[] before = new String[6];
        RudeCoupons[] rows = new RudeCoupons[6];
        for (int deeds = 0; deeds < 6; deeds++) {
            rows[deeds] = doing(deeds);
            before[deeds] = Refused.allOf(doing(deeds));
        }
        for (int deeds = 5; deeds > 0; deeds--) {
            Check.due("undo of deed " + deeds, rows[deeds].undo(), deeds - 1);
            Check.same("as before deed " + deeds, Refused.allOf(rows[deeds]), before[deeds - 1]);
        }
        RudeCoupons all = doing(5);
        for (int left = 4; left >= 0; left--) {
            Check.due("undo to " + left, all.undo(), left);
        }
        Check.same("all undone", Refused.allOf(all), before[0]);
    }

    /** The first of five deeds, one of each kind and a second taking. */
    private static RudeCoupons doing(int deeds) {
        RudeCoupons x = Check.laid(Check.FIRST);
        for (int deed = 1; deed <= deeds; deed++) {
            switch (deed) {
                case 1: x.take(0); break;
                case 2: x.pass(4); break;
                case 3: x.give(1, 0, 3); break;
                case 4: x.ration(7); break;
                default: x.take(5); break;
            }
        }
        return x;
    }

    /** '(the last 8 can be)'; undo: 'how many more can be. NO.' */
    private static void theLastEightCanBeUndone() {
        for (int deeds = 0; deeds <= 20; deeds++) {
            RudeCoupons x = new RudeCoupons();
            for (int n = 0; n < deeds; n++) {
                x.pass(1);
            }
            int can = Math.min(8, deeds);
            Check.due("to be undone of " + deeds, x.count(7), can);
            for (int left = can - 1; left >= 0; left--) {
                Check.due("undo of " + deeds, x.undo(), left);
                Check.due("the day of " + deeds, x.count(3), deeds - can + left);
                Check.due("how many more", x.count(7), left);
            }
            Check.due("no more of " + deeds, x.undo(), NO);
            Check.due("the day stays", x.count(3), deeds - can);
        }
    }

    private static void eightTimesEachKind() {
        RudeCoupons takes = Check.laid("p2,15,0;p0,0,0;d3,1,2;" + "o0,0,0;".repeat(10));
        for (int k = 0; k < 10; k++) {
            takes.take(k);
        }
        undoEight(takes);
        Check.due("two stay taken", takes.count(4), 2);
        Check.due("had of two", takes.person(0, 3), 6);
        Check.due("heard of two", takes.heard(1), 4);
        RudeCoupons gifts = Check.laid("p0,15,0;p0,0,0;");
        for (int n = 0; n < 10; n++) {
            gifts.give(0, 1, 1);
        }
        undoEight(gifts);
        Check.due("two stay given", gifts.net(1), 10002);
        Check.due("and are his", gifts.person(1, 1), 2);
        RudeCoupons rations = Check.laid("p0,15,0;p0,0,0;");
        for (int r = 1; r <= 10; r++) {
            rations.ration(r);
        }
        undoEight(rations);
        Check.due("the second ration", rations.count(5), 4);
    }

    private static void undoEight(RudeCoupons x) {
        for (int left = 7; left >= 0; left--) {
            Check.due("undo", x.undo(), left);
        }
        Check.due("no ninth", x.undo(), NO);
    }

    /** Rations far beyond 8, with some undone between: those that came last are brought back, in their order. */
    private static void manyMoreThanEight() {
        RudeCoupons x = Check.laid("p0,15,0;");
        java.util.List<Integer> past = new java.util.ArrayList<>();
        int has = 15;
        for (int n = 0; n < 300; n++) {
            if (n % 7 == 3 || n % 11 == 5) {
                int want = past.isEmpty() ? has : past.remove(past.size() - 1);
                Check.due("undo " + n, x.undo(), past.size());
                has = want;
            } else {
                past.add(has);
                if (past.size() > 8) {
                    past.remove(0);
                }
                Check.due("ration " + n, x.ration(n % 16), has);
                has = n % 16;
            }
        }
        Check.due("coupons at the end", x.count(5), has);
    }

    private static void askingIsNoStep() {
        RudeCoupons x = States.used();
        int can = x.count(7);
        Refused.allOf(x);
        x.seen(0, 0, 0);
        x.forget();
        x.keep();
        x.write('p');
        x.wipe();
        x.lay();
        Check.due("asking, seeing, writing, keeping", x.count(7), can);
        x.undo();
        Check.due("the latest deed is undone", x.count(4), 1);
        Check.due("what is kept stays", x.count(8), 2);
    }

    private static void refusedIsNoStep() {
        RudeCoupons x = States.used();
        int can = x.count(7);
        x.take(0);
        x.take(-1);
        x.pass(0);
        x.give(0, 1, 15);
        x.give(0, 0, 1);
        x.ration(16);
        Check.due("refused calls", x.count(7), can);
        Check.due("undo", x.undo(), can - 1);
        Check.due("not taken again", x.occasion(1, 3), 0);
    }

    private static void refusedUndo() {
        new Refused("new", RudeCoupons::new).call("undo", RudeCoupons::undo, NO);
        new Refused("all undone", () -> {
            RudeCoupons x = States.full();
            for (int n = 0; n < 8; n++) {
                x.undo();
            }
            return x;
        }).call("undo", RudeCoupons::undo, NO);
        new Refused("brought back", () -> {
            RudeCoupons x = States.used();
            x.back();
            return x;
        }).call("undo", RudeCoupons::undo, NO);
    }
}
