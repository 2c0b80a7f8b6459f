/** Rationed bad manners: people with coupons, what they do with them, and what they had best do. */
public final class RudeCoupons {
    public static final int BAD = -1, NO = -2, FULL = -3, NONE = -4;

    private static final int MOST_LETTERS = 200;
    private static final int MOST_PERSONS = 6;
    private static final int MOST_DOINGS = 6;
    private static final int MOST_OCCASIONS = 10;
    private static final int MOST_COUPONS = 15;
    private static final int MOST_SEEN = 8;
    private static final int MOST_UNDONE = 8;
    private static final int MOST_KEPT = 2;
    private static final int LAST_DAY = 99;

    private static final int CHILD = 1;
    private static final int GUEST = 2;
    private static final int THRIFTY = 3;

    /** Keeps NET from being mistaken for BAD and its like. */
    private static final int NET_OF_NONE = 10000;

    private static final String FIRST_TEXT =
            "p0,4,3;p1,5,0;p2,1,5;p3,3,2;d9,2,4;d4,1,1;d14,3,6;o0,0,1;o1,0,0;o1,1,1;o2,2,2;o3,3,0;o4,0,2;o4,1,0;o6,3,1;o7,0,1;";

    private final Letters text = new Letters();
    private final Reader reader = new Reader();
    private final Standing now = new Standing();
    private final Shelf past = new Shelf(MOST_UNDONE);
    private final Shelf kept = new Shelf(MOST_KEPT);
    private final Letters[] keptTexts = new Letters[MOST_KEPT];
    private final Sightings sightings = new Sightings();
    private final Plans plans = new Plans();
    private final int[] couponsOfYear = new int[MOST_PERSONS];
    private Book book = new Book();
    /** What is read goes here first, so that a TEXT with a FAULT leaves the LAID one alone. */
    private Book trial = new Book();

    public RudeCoupons() {
        for (int k = 0; k < keptTexts.length; k++) {
            keptTexts[k] = new Letters();
        }
        for (int place = 0; place < FIRST_TEXT.length(); place++) {
            text.add(FIRST_TEXT.charAt(place));
        }
        layText();
        text.length = 0;
    }

    // ---- books

    public int write(int letter) {
        if (!within(letter, 32, 126)) {
            return BAD;
        }
        return text.add((char) letter) ? text.length : FULL;
    }

    public int wipe() {
        int length = text.length;
        text.length = 0;
        return length;
    }

    public int fault() {
        return reader.readInto(trial, text);
    }

    public int lay() {
        return layText();
    }

    public int person(int i, int what) {
        if (!book.hasPerson(i)) {
            return BAD;
        }
        switch (what) {
            case 0: return book.kind[i];
            case 1: return now.coupons[i];
            case 2: return book.skin[i];
            case 3: return now.had[i];
            default: return BAD;
        }
    }

    public int doing(int q, int what) {
        if (!book.hasDoing(q)) {
            return BAD;
        }
        switch (what) {
            case 0: return book.worth[q];
            case 1: return book.takes[q];
            case 2: return book.annoys[q];
            default: return BAD;
        }
    }

    public int occasion(int k, int what) {
        if (!book.hasOccasion(k)) {
            return BAD;
        }
        switch (what) {
            case 0: return book.day[k];
            case 1: return book.who[k];
            case 2: return book.does[k];
            case 3: return now.isTaken(k) ? 1 : 0;
            case 4: return leftIfTaken(k) >= 0 ? 1 : 0;
            default: return BAD;
        }
    }

    // ---- days

    public int take(int k) {
        if (!book.hasOccasion(k)) {
            return BAD;
        }
        int left = leftIfTaken(k);
        if (left < 0) {
            return NO;
        }
        past.put(now);
        int who = book.who[k];
        int does = book.does[k];
        now.taken |= 1 << k;
        now.coupons[who] = left;
        now.had[who] += book.worth[does];
        for (int j = 0; j < book.persons; j++) {
            now.suffered[j] += book.sufferingOf(j, who, does);
        }
        return left;
    }

    public int pass(int n) {
        if (!within(n, 1, 30)) {
            return BAD;
        }
        if (now.day + n > LAST_DAY) {
            return NO;
        }
        past.put(now);
        now.day += n;
        return now.day;
    }

    public int give(int i, int j, int c) {
        if (!book.hasPerson(i) || !book.hasPerson(j) || i == j || !within(c, 1, MOST_COUPONS)) {
            return BAD;
        }
        if (now.coupons[i] < c) {
            return NO;
        }
        if (now.coupons[j] + c > MOST_COUPONS) {
            return FULL;
        }
        past.put(now);
        now.coupons[i] -= c;
        now.coupons[j] += c;
        now.net[i] -= c;
        now.net[j] += c;
        return now.coupons[i];
    }

    public int ration(int r) {
        if (!within(r, 0, MOST_COUPONS)) {
            return BAD;
        }
        past.put(now);
        int before = now.couponsOfAll();
        for (int i = 0; i < book.persons; i++) {
            now.coupons[i] = r;
        }
        return before;
    }

    public int undo() {
        return past.takeInto(now) ? past.size : NO;
    }

    // ---- what would be

    public int best(int i, int what) {
        if (!book.hasPerson(i) || !within(what, 0, 1)) {
            return BAD;
        }
        plans.make(book, now, i);
        int coupons = now.coupons[i];
        return what == 0 ? plans.worth[i][coupons] : plans.set[i][coupons];
    }

    public int more(int i) {
        if (!book.hasPerson(i)) {
            return BAD;
        }
        plans.make(book, now, i);
        return plans.gain(i, now.coupons[i]);
    }

    public int giveBest(int what) {
        if (!within(what, 0, 1)) {
            return BAD;
        }
        plans.makeAll(book, now);
        int most = 0;
        int pair = NONE;
        for (int i = 0; i < book.persons; i++) {
            for (int j = 0; j < book.persons; j++) {
                int growth = growthByGiving(i, j);
                if (growth > most) {
                    most = growth;
                    pair = 8 * i + j;
                }
            }
        }
        if (pair == NONE) {
            return NONE;
        }
        return what == 0 ? pair : most;
    }

    public int shared(int i) {
        if (i != -1 && !book.hasPerson(i)) {
            return BAD;
        }
        plans.makeAll(book, now);
        int all = now.couponsOfAll();
        plans.partAll(book.persons, all);
        return i == -1 ? plans.together[0][all] : plans.shareOf(i, all);
    }

    public int rationFor(int s) {
        if (!within(s, 0, 999)) {
            return BAD;
        }
        plans.makeAll(book, now);
        for (int r = MOST_COUPONS; r > 0; r--) {
            if (sufferingUnder(r) <= s) {
                return r;
            }
        }
        return 0;
    }

    // ---- what was seen

    public int seen(int i, int q, int day) {
        if (!book.hasPerson(i) || !book.hasDoing(q) || !within(day, 0, LAST_DAY)) {
            return BAD;
        }
        return sightings.add(i, q, day) ? sightings.size : FULL;
    }

    public int forget() {
        int size = sightings.size;
        sightings.size = 0;
        return size;
    }

    public int without() {
        int bits = 0;
        for (int i = 0; i < book.persons; i++) {
            if (!sightings.couldBe(book, i)) {
                bits |= 1 << i;
            }
        }
        return bits;
    }

    // ---- the last evening

    public int letGo(int m, int what) {
        if (!within(m, 0, 99) || !within(what, 0, 1)) {
            return BAD;
        }
        int all = now.couponsOfAll();
        int others = all - now.mostOfOne();
        // He who has the most can go once ahead of, between and behind those of all others, no oftener.
        int gone = Math.min(m, Math.min(all, 2 * others + 1));
        return what == 0 ? gone : all - gone;
    }

    public int keepOne(int i, int w, int x) {
        if (!book.hasPerson(i) || !within(w, 0, 99) || !within(x, 0, 10)) {
            return BAD;
        }
        int coupons = now.coupons[i];
        if (coupons < 1) {
            return NO;
        }
        plans.make(book, now, i);
        return w * x > 10 * plans.gain(i, coupons - 1) ? 1 : 0;
    }

    public int net(int i) {
        return book.hasPerson(i) ? now.net[i] + NET_OF_NONE : BAD;
    }

    public int heard(int i) {
        if (i == -1) {
            return now.sufferedByAll();
        }
        return book.hasPerson(i) ? now.suffered[i] : BAD;
    }

    public int year(int z, int what) {
        if (!within(z, 0, 9999) || !within(what, 0, 1)) {
            return BAD;
        }
        copyRow(now.coupons, couponsOfYear);
        int had = 0;
        for (int place = 0; place < book.occasions; place++) {
            int k = book.byDays[place];
            int who = book.who[k];
            int left = book.leftAfter(who, book.does[k], book.day[k], couponsOfYear[who]);
            if (left >= 0 && now.isAhead(book, k) && isDrawn(z, k)) {
                couponsOfYear[who] = left;
                had += book.worth[book.does[k]];
            }
        }
        return what == 0 ? had : sumOf(couponsOfYear);
    }

    // ---- kept

    public int keep() {
        int place = kept.size;
        if (place >= MOST_KEPT) {
            return FULL;
        }
        kept.put(now);
        keptTexts[place].copy(text);
        return kept.size;
    }

    public int back() {
        if (!kept.takeInto(now)) {
            return NO;
        }
        if (kept.size < keptTexts.length) {
            text.copy(keptTexts[kept.size]);
        }
        past.size = 0;
        return kept.size;
    }

    public int count(int what) {
        switch (what) {
            case 0: return book.persons;
            case 1: return book.doings;
            case 2: return book.occasions;
            case 3: return now.day;
            case 4: return Integer.bitCount(now.taken);
            case 5: return now.couponsOfAll();
            case 6: return sightings.size;
            case 7: return past.size;
            case 8: return kept.size;
            case 9: return text.length;
            default: return BAD;
        }
    }

    // ---- what these lean on

    private int layText() {
        if (reader.readInto(trial, text) != NONE || trial.persons == 0) {
            return NO;
        }
        Book read = trial;
        trial = book;
        book = read;
        now.begin(book);
        past.size = 0;
        kept.size = 0;
        sightings.size = 0;
        return book.persons;
    }

    /** How many COUPONS he would have left if OCCASION k were taken today, or NO. */
    private int leftIfTaken(int k) {
        if (now.isTaken(k) || book.day[k] != now.day) {
            return NO;
        }
        int who = book.who[k];
        return book.leftAfter(who, book.does[k], now.day, now.coupons[who]);
    }

    /** 0 where PERSON i can't give one to PERSON j: such a pair is never the best. */
    private int growthByGiving(int i, int j) {
        if (i == j || now.coupons[i] < 1 || now.coupons[j] >= MOST_COUPONS) {
            return 0;
        }
        return plans.gain(j, now.coupons[j]) - plans.gain(i, now.coupons[i] - 1);
    }

    private int sufferingUnder(int r) {
        int sum = 0;
        for (int k = 0; k < book.occasions; k++) {
            int who = book.who[k];
            if ((plans.set[who][r] >> k & 1) == 1) {
                sum += book.sufferingOfAll(who, book.does[k]);
            }
        }
        return sum;
    }

    private static boolean isDrawn(int z, int k) {
        long x = 7919L * z + 6151L * k + 1;
        long draw = x * x % 65521 / 8;
        return draw % 4 != 0;
    }

    private static boolean within(int number, int least, int most) {
        return number >= least && number <= most;
    }

    private static int sumOf(int[] row) {
        int sum = 0;
        for (int i = 0; i < row.length; i++) {
            sum += row[i];
        }
        return sum;
    }

    private static void copyRow(int[] from, int[] to) {
        for (int i = 0; i < from.length && i < to.length; i++) {
            to[i] = from[i];
        }
    }

    /** A TEXT. */
    private static final class Letters {
        final char[] row = new char[MOST_LETTERS];
        int length;

        boolean add(char letter) {
            if (length >= row.length) {
                return false;
            }
            row[length] = letter;
            length++;
            return true;
        }

        /** Behind the end a sign that no ITEM can have, so that a reader needs to ask for no length. */
        char at(int place) {
            return place >= 0 && place < length ? row[place] : (char) 0;
        }

        void copy(Letters other) {
            for (int place = 0; place < other.length; place++) {
                row[place] = other.row[place];
            }
            length = other.length;
        }
    }

    /** Reads a TEXT into a Book, up to the first FAULT. */
    private static final class Reader {
        final int[] numbers = new int[3];

        /** The FAULT, or NONE. */
        int readInto(Book book, Letters text) {
            book.clear();
            int start = 0;
            for (int items = 0; items < MOST_LETTERS && start < text.length; items++) {
                int end = readItem(book, text, start);
                if (end < 0) {
                    return start;
                }
                start = end;
            }
            return NONE;
        }

        /** The place behind the ITEM that begins at start, or NONE if it is not so. */
        int readItem(Book book, Letters text, int start) {
            int place = start + 1;
            for (int n = 0; n < numbers.length; n++) {
                int figures = figuresAt(text, place);
                if (figures == 0) {
                    return NONE;
                }
                numbers[n] = numberAt(text, place, figures);
                place += figures;
                boolean last = n == numbers.length - 1;
                if (text.at(place) != (last ? ';' : ',')) {
                    return NONE;
                }
                place++;
            }
            return book.add(text.at(start), numbers[0], numbers[1], numbers[2]) ? place : NONE;
        }

        /** How many figures stand there, of the two that a number may have. */
        static int figuresAt(Letters text, int place) {
            if (!isFigure(text.at(place))) {
                return 0;
            }
            return isFigure(text.at(place + 1)) ? 2 : 1;
        }

        static int numberAt(Letters text, int place, int figures) {
            int first = text.at(place) - '0';
            return figures == 1 ? first : 10 * first + text.at(place + 1) - '0';
        }

        static boolean isFigure(char letter) {
            return letter >= '0' && letter <= '9';
        }
    }

    /** What a TEXT tells; nothing of it changes while it is LAID. */
    private static final class Book {
        int persons;
        final int[] kind = new int[MOST_PERSONS];
        final int[] told = new int[MOST_PERSONS];
        final int[] skin = new int[MOST_PERSONS];
        int doings;
        final int[] worth = new int[MOST_DOINGS];
        final int[] takes = new int[MOST_DOINGS];
        final int[] annoys = new int[MOST_DOINGS];
        int occasions;
        final int[] day = new int[MOST_OCCASIONS];
        final int[] who = new int[MOST_OCCASIONS];
        final int[] does = new int[MOST_OCCASIONS];
        /** The OCCASIONS by DAYS, on one DAY by number. */
        final int[] byDays = new int[MOST_OCCASIONS];

        void clear() {
            persons = 0;
            doings = 0;
            occasions = 0;
        }

        boolean hasPerson(int i) {
            return i >= 0 && i < persons;
        }

        boolean hasDoing(int q) {
            return q >= 0 && q < doings;
        }

        boolean hasOccasion(int k) {
            return k >= 0 && k < occasions;
        }

        /** Whether there can be such an ITEM, which is in the Book then. */
        boolean add(char letter, int a, int b, int c) {
            if (letter == 'p') {
                return addPerson(a, b, c);
            }
            if (letter == 'd') {
                return addDoing(a, b, c);
            }
            return letter == 'o' && addOccasion(a, b, c);
        }

        boolean addPerson(int ofKind, int coupons, int ofSkin) {
            if (persons >= MOST_PERSONS || !within(ofKind, 0, THRIFTY)
                    || !within(coupons, 0, MOST_COUPONS) || !within(ofSkin, 0, 9)) {
                return false;
            }
            kind[persons] = ofKind;
            told[persons] = coupons;
            skin[persons] = ofSkin;
            persons++;
            return true;
        }

        boolean addDoing(int ofWorth, int coupons, int annoying) {
            if (doings >= MOST_DOINGS || !within(ofWorth, 0, 30)
                    || !within(coupons, 1, 3) || !within(annoying, 0, 9)) {
                return false;
            }
            worth[doings] = ofWorth;
            takes[doings] = coupons;
            annoys[doings] = annoying;
            doings++;
            return true;
        }

        boolean addOccasion(int onDay, int i, int q) {
            if (occasions >= MOST_OCCASIONS || !within(onDay, 0, 60) || !hasPerson(i) || !hasDoing(q)) {
                return false;
            }
            day[occasions] = onDay;
            who[occasions] = i;
            does[occasions] = q;
            int place = occasions;
            while (place > 0 && day[byDays[place - 1]] > onDay) {
                byDays[place] = byDays[place - 1];
                place--;
            }
            byDays[place] = occasions;
            occasions++;
            return true;
        }

        /** How many of so many COUPONS PERSON i has left, having done q on that DAY; NO: he can't. */
        int leftAfter(int i, int q, int onDay, int coupons) {
            int cost = takes[q];
            if (kind[i] == CHILD) {
                cost *= 2;
            } else if (kind[i] == GUEST) {
                cost = 1;
                if (onDay % 2 != 0) {
                    return NO;
                }
            }
            int left = coupons - cost;
            return left >= (kind[i] == THRIFTY ? 1 : 0) ? left : NO;
        }

        /** What PERSON j SUFFERS when PERSON i does q. */
        int sufferingOf(int j, int i, int q) {
            return j == i ? 0 : Math.max(0, annoys[q] - skin[j]);
        }

        int sufferingOfAll(int i, int q) {
            int sum = 0;
            for (int j = 0; j < persons; j++) {
                sum += sufferingOf(j, i, q);
            }
            return sum;
        }
    }

    /** How things stand on a DAY: all that can be UNDONE. */
    private static final class Standing {
        int day;
        /** OCCASIONS, as bits. */
        int taken;
        /** In these rows 0 stands for PERSONS that there are not, so that sums may go over all. */
        final int[] coupons = new int[MOST_PERSONS];
        final int[] had = new int[MOST_PERSONS];
        final int[] suffered = new int[MOST_PERSONS];
        final int[] net = new int[MOST_PERSONS];

        void begin(Book book) {
            day = 0;
            taken = 0;
            for (int i = 0; i < MOST_PERSONS; i++) {
                coupons[i] = i < book.persons ? book.told[i] : 0;
                had[i] = 0;
                suffered[i] = 0;
                net[i] = 0;
            }
        }

        void copy(Standing other) {
            day = other.day;
            taken = other.taken;
            copyRow(other.coupons, coupons);
            copyRow(other.had, had);
            copyRow(other.suffered, suffered);
            copyRow(other.net, net);
        }

        boolean isTaken(int k) {
            return (taken >> k & 1) == 1;
        }

        /** From today on, not taken. */
        boolean isAhead(Book book, int k) {
            return book.day[k] >= day && !isTaken(k);
        }

        int couponsOfAll() {
            return sumOf(coupons);
        }

        int sufferedByAll() {
            return sumOf(suffered);
        }

        int mostOfOne() {
            int most = 0;
            for (int i = 0; i < coupons.length; i++) {
                most = Math.max(most, coupons[i]);
            }
            return most;
        }
    }

    /** Standings laid by, of which the latest comes back first. */
    private static final class Shelf {
        final Standing[] rows;
        int size;

        Shelf(int most) {
            rows = new Standing[Math.max(1, most)];
            for (int s = 0; s < rows.length; s++) {
                rows[s] = new Standing();
            }
        }

        /** Where there is no room, the oldest makes it. */
        void put(Standing standing) {
            if (size >= rows.length) {
                dropOldest();
            }
            rows[size].copy(standing);
            size++;
        }

        /** The oldest's row goes to the end to be used again: no call makes new ones. */
        void dropOldest() {
            Standing oldest = rows[0];
            for (int s = 1; s < rows.length; s++) {
                rows[s - 1] = rows[s];
            }
            size = rows.length - 1;
            rows[size] = oldest;
        }

        boolean takeInto(Standing standing) {
            if (size < 1) {
                return false;
            }
            size--;
            standing.copy(rows[size]);
            return true;
        }
    }

    /** What was SEEN, as it was told. */
    private static final class Sightings {
        final int[] who = new int[MOST_SEEN];
        final int[] did = new int[MOST_SEEN];
        final int[] when = new int[MOST_SEEN];
        int size;

        boolean add(int i, int q, int day) {
            if (size >= MOST_SEEN) {
                return false;
            }
            who[size] = i;
            did[size] = q;
            when[size] = day;
            size++;
            return true;
        }

        /**
         * Whether PERSON i could have done all that was SEEN of him. What is left behind all of it is
         * the same in each order, and least at the end, so the order of DAYS needs no sorting here.
         */
        boolean couldBe(Book book, int i) {
            int left = book.told[i];
            for (int s = 0; s < size; s++) {
                if (who[s] == i) {
                    left = book.leftAfter(i, did[s], when[s], left);
                    if (left < 0) {
                        return false;
                    }
                }
            }
            return true;
        }
    }

    /** BEST of each PERSON with each number of COUPONS, and how all COUPONS are best parted. */
    private static final class Plans {
        final int[][] worth = new int[MOST_PERSONS][MOST_COUPONS + 1];
        final int[][] set = new int[MOST_PERSONS][MOST_COUPONS + 1];
        /** Of the PERSONS from i on with just t COUPONS: the most WORTH; NONE: they can't hold so many. */
        final int[][] together = new int[MOST_PERSONS + 1][MOST_PERSONS * MOST_COUPONS + 1];

        /**
         * For which sets COUPONS do is the same in each order, as the same is left behind it. By number
         * then: a set with the OCCASION at hand is higher than each without, so it must be worth more.
         */
        void make(Book book, Standing now, int i) {
            for (int c = 0; c <= MOST_COUPONS; c++) {
                worth[i][c] = 0;
                set[i][c] = 0;
            }
            for (int k = 0; k < book.occasions; k++) {
                if (book.who[k] == i && now.isAhead(book, k)) {
                    addOccasion(book, i, k);
                }
            }
        }

        /** From the most COUPONS down, as the rows of fewer must still be without this OCCASION. */
        void addOccasion(Book book, int i, int k) {
            int does = book.does[k];
            for (int c = MOST_COUPONS; c >= 0; c--) {
                int left = book.leftAfter(i, does, book.day[k], c);
                if (left >= 0 && worth[i][left] + book.worth[does] > worth[i][c]) {
                    worth[i][c] = worth[i][left] + book.worth[does];
                    set[i][c] = set[i][left] | 1 << k;
                }
            }
        }

        void makeAll(Book book, Standing now) {
            for (int i = 0; i < book.persons; i++) {
                make(book, now, i);
            }
        }

        /** What BEST gains by one more than c COUPONS; 0, if there can't be more. */
        int gain(int i, int c) {
            return c >= 0 && c < MOST_COUPONS ? worth[i][c + 1] - worth[i][c] : 0;
        }

        void partAll(int persons, int all) {
            for (int t = 0; t <= all; t++) {
                together[persons][t] = t == 0 ? 0 : NONE;
            }
            for (int i = persons - 1; i >= 0; i--) {
                for (int t = 0; t <= all; t++) {
                    together[i][t] = mostFrom(i, t);
                }
            }
        }

        int mostFrom(int i, int t) {
            int most = NONE;
            for (int c = 0; c <= MOST_COUPONS && c <= t; c++) {
                most = Math.max(most, withShare(i, c, t));
            }
            return most;
        }

        /** As together[i][t], where PERSON i has c of them. */
        int withShare(int i, int c, int t) {
            int rest = together[i + 1][t - c];
            return rest < 0 ? NONE : rest + worth[i][c];
        }

        /** How many PERSON i has of all: those ahead of him have the most by which it stays best. */
        int shareOf(int i, int all) {
            int t = all;
            for (int j = 0; j < i; j++) {
                t -= greatestShare(j, t);
            }
            return greatestShare(i, t);
        }

        int greatestShare(int i, int t) {
            for (int c = Math.min(MOST_COUPONS, t); c > 0; c--) {
                if (withShare(i, c, t) == together[i][t]) {
                    return c;
                }
            }
            return 0;
        }
    }
}
