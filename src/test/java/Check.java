/** What the tests share: the count of wrong answers, and objects with a TEXT in them. */
final class Check {
    static final String FIRST =
            "p0,4,3;p1,5,0;p2,1,5;p3,3,2;d9,2,4;d4,1,1;d14,3,6;"
            + "o0,0,1;o1,0,0;o1,1,1;o2,2,2;o3,3,0;o4,0,2;o4,1,0;o6,3,1;o7,0,1;";

    private static int wrong = 0;
    private static int asked = 0;

    private Check() {
    }

    static void due(String what, long got, long want) {
        asked++;
        if (got != want) {
            wrong++;
            System.out.println(what + " answered " + got + ", due is " + want);
        }
    }

    static void write(RudeCoupons x, String text) {
        for (int i = 0; i < text.length(); i++) {
            x.write(text.charAt(i));
        }
    }

    static RudeCoupons written(String text) {
        RudeCoupons x = new RudeCoupons();
        write(x, text);
        return x;
    }

    static RudeCoupons laid(String text) {
        RudeCoupons x = written(text);
        if (x.lay() < 1) {
            wrong++;
            System.out.println("not laid: " + text);
        }
        return x;
    }

    /** A line that changes with all that the object shows without being changed by it. */
    static String stateOf(RudeCoupons x) {
        StringBuilder all = new StringBuilder();
        for (int what = 0; what <= 9; what++) {
            all.append(x.count(what)).append(' ');
        }
        for (int i = 0; i < x.count(0); i++) {
            for (int what = 0; what <= 3; what++) {
                all.append(x.person(i, what)).append(' ');
            }
            all.append(x.net(i)).append(' ').append(x.heard(i)).append(' ');
        }
        for (int q = 0; q < x.count(1); q++) {
            for (int what = 0; what <= 2; what++) {
                all.append(x.doing(q, what)).append(' ');
            }
        }
        for (int k = 0; k < x.count(2); k++) {
            for (int what = 0; what <= 4; what++) {
                all.append(x.occasion(k, what)).append(' ');
            }
        }
        return all.append(x.fault()).append(' ').append(x.without()).toString();
    }

    static void same(String what, String got, String want) {
        asked++;
        if (!got.equals(want)) {
            wrong++;
            System.out.println(what + ": " + got + ", due is " + want);
        }
    }

    static void end() {
        System.out.println(asked + " asked, " + wrong + " wrong");
        if (wrong != 0) {
            System.exit(1);
        }
    }
}
