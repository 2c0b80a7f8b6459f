/** The edges of 'What it is' and of promises 1 to 8: each method is for one sentence of the document. */
public final class TextEdgesTest {
    private static final int BAD = RudeCoupons.BAD, NO = RudeCoupons.NO, FULL = RudeCoupons.FULL, NONE = RudeCoupons.NONE;
    private static final String AHEAD = "p0,1,1;d1,1,1;";

    public static void main(String[] args) {
        lettersAreTwoHundredAtMost();
        aFullTextCanBeLaid();
        lettersAre32To126();
        wipeOfEmptyAndFull();
        wipeLeavesAllElse();
        eachNumberHasItsBounds();
        numbersHaveOneOrTwoFigures();
        itemsBeginWithTheirLetter();
        signsPartNumbersAndEndItems();
        aTextThatStopsWithinAnItem();
        oneSignChanged();
        sixTenAtMost();
        personAndDoingAreToldAhead();
        firstOfSeveralFaults();
        emptyTextHasNoFault();
        laidNeedsAPerson();
        laidIsRefused();
        laidBeginsAnew();
        laidAgainIsTheSameText();
        newObjectsShareNothing();
        newObjectIsAsToldAtFirst();
        personsAreSuchAsThereAre();
        doingsAreSuchAsThereAre();
        occasionsAreSuchAsThereAre();
        numbersAtTheirMostAreTold();
        Check.end();
    }

    private static void faultOf(String text, int want) {
        Check.due("fault of " + text, Check.written(text).fault(), want);
    }

    /** 'A TEXT is letters (200 at most)'; write: 'how long it is. BAD; FULL.' */
    private static void lettersAreTwoHundredAtMost() {
        RudeCoupons x = new RudeCoupons();
        for (int n = 1; n <= 200; n++) {
            Check.due("letter " + n, x.write('o'), n);
            Check.due("letters " + n, x.count(9), n);
        }
        Refused full = new Refused("200 letters", () -> Check.written("p2,7" + "o".repeat(196)));
        full.call("write one more", y -> y.write('p'), FULL);
        full.call("the least letter", y -> y.write(32), FULL);
        full.call("BAD ahead of FULL, below", y -> y.write(31), BAD);
        full.call("BAD ahead of FULL, above", y -> y.write(127), BAD);
        Refused almost = new Refused("199 letters", () -> Check.written("o".repeat(199)));
        almost.call("BAD, though there is room", y -> y.write(127), BAD);
        Check.due("the last there is room for", Check.written("o".repeat(199)).write('o'), 200);
    }

    private static void aFullTextCanBeLaid() {
        Check.due("letters of the fullest", States.FULLEST.length(), 200);
        faultOf(States.FULLEST, NONE);
        faultOf(States.FULLEST.substring(0, 199), 192);
        RudeCoupons x = Check.written(States.FULLEST);
        Check.due("laid", x.lay(), 6);
        int[] counts = {6, 6, 10, 0, 0, 90, 0, 0, 0, 200};
        for (int what = 0; what < counts.length; what++) {
            Check.due("count(" + what + ") of the fullest", x.count(what), counts[what]);
        }
        RudeCoupons y = Check.written(States.FULLEST.substring(0, 192) + "o60,05,5");
        Check.due("no room for the end", y.write(';'), FULL);
        Check.due("so it stands open", y.fault(), 192);
        Check.due("and is not laid", y.lay(), NO);
    }

    /** write: 'A letter (32 to 126, as in ASCII)'. */
    private static void lettersAre32To126() {
        for (int letter = 0; letter < 300; letter++) {
            boolean is = letter >= 32 && letter <= 126;
            RudeCoupons x = new RudeCoupons();
            Check.due("write(" + letter + ")", x.write(letter), is ? 1 : BAD);
            Check.due("letters behind write(" + letter + ")", x.count(9), is ? 1 : 0);
            Check.due("fault behind write(" + letter + ")", x.fault(), is ? 0 : NONE);
        }
        Refused used = new Refused("used", States::used);
        for (int letter : new int[] {31, 127, 0, -1, 256 + 'p', 65536 + 'p', Integer.MIN_VALUE, Integer.MAX_VALUE}) {
            used.call("write(" + letter + ")", x -> x.write(letter), BAD);
        }
    }

    /** wipe: 'THE TEXT is empty: how long it was.' */
    private static void wipeOfEmptyAndFull() {
        Check.due("of a new object", new RudeCoupons().wipe(), 0);
        for (int length : new int[] {1, 199, 200}) {
            RudeCoupons x = Check.written("p".repeat(length));
            Check.due("wipe of " + length, x.wipe(), length);
            Check.due("wiped", x.count(9), 0);
            Check.due("no fault then", x.fault(), NONE);
            Check.due("wipe of none", x.wipe(), 0);
            Check.due("room for the first", x.write('p'), 1);
        }
    }

    private static void wipeLeavesAllElse() {
        RudeCoupons x = States.used();
        int[] counts = new int[9];
        for (int what = 0; what < 9; what++) {
            counts[what] = x.count(what);
        }
        x.wipe();
        for (int what = 0; what < 9; what++) {
            Check.due("count(" + what + ") behind wipe", x.count(what), counts[what]);
        }
        Check.due("still to be undone", x.undo(), 3);
        Check.due("still kept", x.back(), 0);
    }

    private static void boundsOf(String head, String tail, int least, int most) {
        for (int number = 0; number <= 99; number++) {
            boolean is = number >= least && number <= most;
            faultOf(AHEAD + head + number + tail, is ? NONE : 14);
            if (number < 10) {
                faultOf(AHEAD + head + "0" + number + tail, is ? NONE : 14);
            }
        }
    }

    /** KIND 0 to 3, COUPONS 0 to 15, SKIN 0 to 9; WORTH 0 to 30, N 1 to 3, A 0 to 9; DAY 0 to 60, P and Q such as there are. */
    private static void eachNumberHasItsBounds() {
        boundsOf("p", ",0,0;", 0, 3);
        boundsOf("p0,", ",0;", 0, 15);
        boundsOf("p0,0,", ";", 0, 9);
        boundsOf("d", ",1,0;", 0, 30);
        boundsOf("d0,", ",0;", 1, 3);
        boundsOf("d0,1,", ";", 0, 9);
        boundsOf("o", ",0,0;", 0, 60);
        boundsOf("o0,", ",0;", 0, 0);
        boundsOf("o0,0,", ";", 0, 0);
        for (int n = 1; n <= 6; n++) {
            String people = "d1,1,1;" + "p0,0,0;".repeat(n);
            String doings = "p0,0,0;" + "d1,1,1;".repeat(n);
            for (int number = 0; number <= 12; number++) {
                faultOf(people + "o0," + number + ",0;", number < n ? NONE : people.length());
                faultOf(doings + "o0,0," + number + ";", number < n ? NONE : doings.length());
            }
        }
    }

    /** 'then numbers (one or two figures) parted by ,'. */
    private static void numbersHaveOneOrTwoFigures() {
        String[] items = {"p#,1,1;", "p1,#,1;", "p1,1,#;", "d#,1,1;", "d1,#,1;", "d1,1,#;", "o#,0,0;", "o0,#,0;", "o0,0,#;"};
        for (String item : items) {
            String figure = item.charAt(0) == 'o' ? "0" : "1";
            faultOf(AHEAD + item.replace("#", ""), 14);
            faultOf(AHEAD + item.replace("#", figure), NONE);
            faultOf(AHEAD + item.replace("#", "0" + figure), NONE);
            faultOf(AHEAD + item.replace("#", "00" + figure), 14);
            faultOf(AHEAD + item.replace("#", "000" + figure), 14);
        }
        RudeCoupons x = Check.laid("p03,09,07;d08,02,05;o06,00,00;");
        Check.due("p of two figures", x.person(0, 0) * 10000 + x.person(0, 1) * 100 + x.person(0, 2), 30907);
        Check.due("d of two figures", x.doing(0, 0) * 10000 + x.doing(0, 1) * 100 + x.doing(0, 2), 80205);
        Check.due("o of two figures", x.occasion(0, 0), 6);
    }

    /** 'each a letter': p, d or o, and no other of the 95 that can be written. */
    private static void itemsBeginWithTheirLetter() {
        for (int letter = 32; letter <= 126; letter++) {
            boolean is = letter == 'p' || letter == 'd';
            faultOf(AHEAD + (char) letter + "1,1,1;", is ? NONE : 14);
            faultOf(AHEAD + (char) letter + "0,0,0;", letter == 'p' || letter == 'o' ? NONE : 14);
        }
    }

    /** 'numbers parted by , and a ; behind the last one'. */
    private static void signsPartNumbersAndEndItems() {
        for (int sign = 32; sign <= 126; sign++) {
            char c = (char) sign;
            faultOf(AHEAD + "p1" + c + "1,1;", c == ',' ? NONE : 14);
            faultOf(AHEAD + "p1,1" + c + "1;", c == ',' ? NONE : 14);
            faultOf(AHEAD + "p1,1,1" + c, c == ';' ? NONE : 14);
            faultOf(AHEAD + "p" + c + ",1,1;", c >= '0' && c <= '3' ? NONE : 14);
            faultOf(AHEAD + "p1," + c + ",1;", c >= '0' && c <= '9' ? NONE : 14);
            faultOf(AHEAD + "p1,0" + c + ",1;", c >= '0' && c <= '9' ? NONE : 14);
        }
    }

    private static void aTextThatStopsWithinAnItem() {
        for (int length = 0; length <= Check.FIRST.length(); length++) {
            String text = Check.FIRST.substring(0, length);
            int open = text.lastIndexOf(';') + 1;
            faultOf(text, open == length ? NONE : open);
        }
    }

    /** Each text that is one sign away from one without FAULT, against the Model's reading. */
    private static void oneSignChanged() {
        String text = "p1,12,3;d30,2,1;o60,0,0;";
        String signs = "0123456789,;pdoP x-";
        for (int place = 0; place <= text.length(); place++) {
            String head = text.substring(0, place);
            String tail = text.substring(place);
            for (char sign : signs.toCharArray()) {
                faultAsModel(head + sign + tail);
                faultAsModel(tail.isEmpty() ? head : head + sign + tail.substring(1));
            }
            faultAsModel(tail.isEmpty() ? head : head + tail.substring(1));
        }
    }

    private static void faultAsModel(String text) {
        Model model = new Model();
        for (char letter : text.toCharArray()) {
            model.write(letter);
        }
        faultOf(text, model.fault());
        Check.due("lay of " + text, Check.written(text).lay(), model.lay());
    }

    /** PERSONS '6 at most', DOINGS '6 at most', OCCASIONS '10 at most'. */
    private static void sixTenAtMost() {
        for (int n = 0; n <= 8; n++) {
            faultOf("p0,0,0;".repeat(n), n <= 6 ? NONE : 42);
            faultOf("d0,1,0;".repeat(n), n <= 6 ? NONE : 42);
            Check.due("lay of " + n + " persons", Check.written("p0,0,0;".repeat(n)).lay(), n == 0 || n > 6 ? NO : n);
        }
        for (int n = 0; n <= 12; n++) {
            faultOf(AHEAD + "o0,0,0;".repeat(n), n <= 10 ? NONE : 84);
            RudeCoupons x = Check.written(AHEAD + "o0,0,0;".repeat(n));
            Check.due("lay with " + n + " occasions", x.lay(), n <= 10 ? 1 : NO);
            Check.due("occasions of " + n, x.count(2), n <= 10 ? n : 9);
        }
        String full = "p0,0,0;".repeat(6) + "d0,1,0;".repeat(6) + "o0,5,5;".repeat(10);
        faultOf(full, NONE);
        for (String item : new String[] {"p0,0,0;", "d0,1,0;", "o0,0,0;"}) {
            faultOf(full + item, full.length());
        }
    }

    /** 'PERSON P to do Q (both told ahead)'. */
    private static void personAndDoingAreToldAhead() {
        faultOf("o0,0,0;", 0);
        faultOf("o0,0,0;p0,0,0;d0,1,0;", 0);
        faultOf("p0,0,0;o0,0,0;d0,1,0;", 7);
        faultOf("d0,1,0;o0,0,0;p0,0,0;", 7);
        faultOf("p0,0,0;d0,1,0;o0,1,0;p0,0,0;", 14);
        faultOf("p0,0,0;d0,1,0;o0,0,1;d0,1,0;", 14);
        faultOf("d0,1,0;p0,0,0;o0,0,0;p0,0,0;o0,1,0;d0,1,0;o0,1,1;", NONE);
    }

    /** 'the place of the first letter of the first ITEM that is not so'. */
    private static void firstOfSeveralFaults() {
        faultOf("x", 0);
        faultOf("p4,0,0;d31,1,0;", 0);
        faultOf("p0,0,0;d31,1,0;p4,0,0;", 7);
        faultOf("p0,0,0;".repeat(7) + "x", 42);
        faultOf("p3,15,9;d30,3,9;o61,0,0;x", 16);
        faultOf("x".repeat(200), 0);
        RudeCoupons x = Check.written("p4,0,0;");
        x.fault();
        Check.due("asked twice", x.fault(), 0);
        Check.due("the text stays", x.count(9), 7);
    }

    /** fault: 'FAULT. NONE.' */
    private static void emptyTextHasNoFault() {
        Check.due("of a new object", new RudeCoupons().fault(), NONE);
        RudeCoupons x = Check.written("x");
        x.wipe();
        Check.due("wiped", x.fault(), NONE);
    }

    /** 'LAID is a TEXT without FAULT, of a PERSON at least (NO else)'. */
    private static void laidNeedsAPerson() {
        Check.due("empty", new RudeCoupons().lay(), NO);
        Check.due("doings alone", Check.written("d0,1,0;".repeat(6)).lay(), NO);
        Check.due("a person alone", Check.written("p0,0,0;").lay(), 1);
        Check.due("a person behind a doing", Check.written("d0,1,0;p0,0,0;").lay(), 1);
    }

    private static void laidIsRefused() {
        new Refused("used", States::used).call("lay with an open item", RudeCoupons::lay, NO);
        new Refused("used and wiped", () -> {
            RudeCoupons x = States.used();
            x.wipe();
            return x;
        }).call("lay of nothing", RudeCoupons::lay, NO);
        new Refused("full", () -> {
            RudeCoupons x = States.full();
            x.wipe();
            Check.write(x, "d0,1,0;d9,3,9;");
            return x;
        }).call("lay without a person", RudeCoupons::lay, NO);
        new Refused("a seventh person", () -> {
            RudeCoupons x = States.used();
            x.wipe();
            Check.write(x, "p0,9,0;".repeat(7));
            return x;
        }).call("lay", RudeCoupons::lay, NO);
    }

    /** lay: 'how many PERSONS; DAY 0, nothing taken, SEEN, UNDONE, KEPT.' */
    private static void laidBeginsAnew() {
        RudeCoupons x = States.used();
        x.seen(0, 0, 0);
        x.keep();
        x.wipe();
        Check.write(x, "p0,4,3;p1,5,0;d9,2,4;o0,0,0;");
        Check.due("lay", x.lay(), 2);
        int[] counts = {2, 1, 1, 0, 0, 9, 0, 0, 0, 28};
        for (int what = 0; what < counts.length; what++) {
            Check.due("count(" + what + ") laid", x.count(what), counts[what]);
        }
        for (int i = 0; i < 2; i++) {
            Check.due("had nothing", x.person(i, 3), 0);
            Check.due("given nothing", x.net(i), 10000);
            Check.due("suffered nothing", x.heard(i), 0);
        }
        Check.due("heard nothing", x.heard(-1), 0);
        Check.due("nothing to undo", x.undo(), NO);
        Check.due("nothing kept", x.back(), NO);
        Check.due("nothing seen", x.without(), 0);
        Check.due("nothing to forget", x.forget(), 0);
        Check.due("not taken", x.occasion(0, 4), 1);
    }

    private static void laidAgainIsTheSameText() {
        RudeCoupons x = Check.laid(Check.FIRST);
        String before = Refused.allOf(x);
        x.take(0);
        x.ration(3);
        Check.due("once more", x.lay(), 4);
        Check.same("all anew", Refused.allOf(x), before);
    }

    private static void newObjectsShareNothing() {
        String before = Refused.allOf(new RudeCoupons());
        RudeCoupons other = new RudeCoupons();
        States.used();
        States.full();
        Check.same("made before", Refused.allOf(other), before);
        Check.same("made behind", Refused.allOf(new RudeCoupons()), before);
    }

    /** 'at first p0,4,3;..', a new object 'As told'. */
    private static void newObjectIsAsToldAtFirst() {
        RudeCoupons x = new RudeCoupons();
        int[][] persons = {{0, 4, 3}, {1, 5, 0}, {2, 1, 5}, {3, 3, 2}};
        int[][] doings = {{9, 2, 4}, {4, 1, 1}, {14, 3, 6}};
        int[][] occasions = {{0, 0, 1}, {1, 0, 0}, {1, 1, 1}, {2, 2, 2}, {3, 3, 0}, {4, 0, 2}, {4, 1, 0}, {6, 3, 1}, {7, 0, 1}};
        for (int what = 0; what < 3; what++) {
            for (int i = 0; i < persons.length; i++) {
                Check.due("person(" + i + ", " + what + ")", x.person(i, what), persons[i][what]);
            }
            for (int q = 0; q < doings.length; q++) {
                Check.due("doing(" + q + ", " + what + ")", x.doing(q, what), doings[q][what]);
            }
            for (int k = 0; k < occasions.length; k++) {
                Check.due("occasion(" + k + ", " + what + ")", x.occasion(k, what), occasions[k][what]);
            }
        }
        Check.due("no fifth person", x.person(4, 0), BAD);
        Check.due("no fourth doing", x.doing(3, 0), BAD);
        Check.due("no tenth occasion", x.occasion(9, 0), BAD);
        Check.due("the text is empty", x.count(9), 0);
    }

    /** 'PERSONS, DOINGS, OCCASIONS: such as there are'. */
    private static void personsAreSuchAsThereAre() {
        for (int n = 1; n <= 6; n++) {
            RudeCoupons x = Check.laid("p1,2,3;".repeat(n));
            for (int i = -2; i <= 8; i++) {
                boolean is = i >= 0 && i < n;
                for (int what = -1; what <= 4; what++) {
                    int want = is && what >= 0 && what < 4 ? (what + 1) % 4 : BAD;
                    Check.due("person(" + i + ", " + what + ") of " + n, x.person(i, what), want);
                }
            }
        }
    }

    private static void doingsAreSuchAsThereAre() {
        for (int n = 0; n <= 6; n++) {
            RudeCoupons x = Check.laid("p0,0,0;" + "d7,2,9;".repeat(n));
            int[] told = {7, 2, 9};
            for (int q = -2; q <= 8; q++) {
                boolean is = q >= 0 && q < n;
                for (int what = -1; what <= 3; what++) {
                    int want = is && what >= 0 && what < 3 ? told[what] : BAD;
                    Check.due("doing(" + q + ", " + what + ") of " + n, x.doing(q, what), want);
                }
            }
        }
    }

    private static void occasionsAreSuchAsThereAre() {
        for (int n = 0; n <= 10; n++) {
            RudeCoupons x = Check.laid("p0,0,0;p0,9,0;d1,1,1;d1,1,1;d1,1,1;" + "o0,1,2;".repeat(n));
            int[] told = {0, 1, 2, 0, 1};
            for (int k = -2; k <= 12; k++) {
                boolean is = k >= 0 && k < n;
                for (int what = -1; what <= 5; what++) {
                    int want = is && what >= 0 && what < 5 ? told[what] : BAD;
                    Check.due("occasion(" + k + ", " + what + ") of " + n, x.occasion(k, what), want);
                }
            }
        }
    }

    private static void numbersAtTheirMostAreTold() {
        RudeCoupons x = Check.laid(States.FULLEST);
        int[] person = {3, 15, 9, 0};
        int[] doing = {30, 3, 9};
        int[] occasion = {60, 5, 5, 0, 0};
        for (int what = 0; what < 5; what++) {
            Check.due("person(5, " + what + ")", x.person(5, what), what < 4 ? person[what] : BAD);
            Check.due("doing(5, " + what + ")", x.doing(5, what), what < 3 ? doing[what] : BAD);
            Check.due("occasion(9, " + what + ")", x.occasion(9, what), occasion[what]);
        }
        RudeCoupons y = Check.laid("p0,0,0;d0,1,0;o0,0,0;");
        Check.due("all at the least", y.person(0, 0) + y.person(0, 1) + y.person(0, 2) + y.doing(0, 0) + y.doing(0, 2), 0);
        Check.due("N at the least", y.doing(0, 1), 1);
    }
}
