import java.util.ArrayList;
import java.util.Comparator;
import java.util.List;
import java.util.regex.Matcher;
import java.util.regex.Pattern;

/** The document's words by trying everything out, with no care for time or room: what the class is held against. */
final class Model {
    static final int BAD = -1, NO = -2, FULL = -3, NONE = -4;
    private static final Pattern ITEM = Pattern.compile("([pdo])([0-9]{1,2}),([0-9]{1,2}),([0-9]{1,2});");

    /** Numbers of an ITEM, in the order of the document. */
    record Item(int a, int b, int c) {
    }

    record Book(List<Item> persons, List<Item> doings, List<Item> occasions, int fault) {
    }

    record State(int day, int[] coupons, int[] had, int[] suffered, int[] given, boolean[] taken, String text) {
        State copy() {
            return new State(day, coupons.clone(), had.clone(), suffered.clone(), given.clone(), taken.clone(), text);
        }

        State on(int newDay) {
            return new State(newDay, coupons, had, suffered, given, taken, text);
        }
    }

    private String text = "";
    private Book book;
    private State now;
    private final List<State> done = new ArrayList<>();
    private final List<State> kept = new ArrayList<>();
    private final List<Item> sightings = new ArrayList<>();

    Model() {
        text = Check.FIRST;
        lay();
        text = "";
    }

    private static Book read(String text) {
        List<Item> persons = new ArrayList<>();
        List<Item> doings = new ArrayList<>();
        List<Item> occasions = new ArrayList<>();
        Matcher matcher = ITEM.matcher(text);
        int place = 0;
        while (place < text.length()) {
            matcher.region(place, text.length());
            if (!matcher.lookingAt()) {
                return new Book(persons, doings, occasions, place);
            }
            Item item = new Item(Integer.parseInt(matcher.group(2)), Integer.parseInt(matcher.group(3)),
                    Integer.parseInt(matcher.group(4)));
            boolean fits;
            switch (matcher.group(1)) {
                case "p":
                    fits = item.a <= 3 && item.b <= 15 && item.c <= 9 && persons.size() < 6;
                    persons.add(item);
                    break;
                case "d":
                    fits = item.a <= 30 && item.b >= 1 && item.b <= 3 && item.c <= 9 && doings.size() < 6;
                    doings.add(item);
                    break;
                default:
                    fits = item.a <= 60 && item.b < persons.size() && item.c < doings.size() && occasions.size() < 10;
                    occasions.add(item);
                    break;
            }
            if (!fits) {
                return new Book(persons, doings, occasions, place);
            }
            place = matcher.end();
        }
        return new Book(persons, doings, occasions, NONE);
    }

    int write(int letter) {
        if (letter < 32 || letter > 126) {
            return BAD;
        }
        if (text.length() == 200) {
            return FULL;
        }
        text += (char) letter;
        return text.length();
    }

    int wipe() {
        int was = text.length();
        text = "";
        return was;
    }

    int fault() {
        return read(text).fault;
    }

    int lay() {
        Book told = read(text);
        if (told.fault != NONE || told.persons.isEmpty()) {
            return NO;
        }
        book = told;
        int n = told.persons.size();
        int[] coupons = told.persons.stream().mapToInt(Item::b).toArray();
        now = new State(0, coupons, new int[n], new int[n], new int[n], new boolean[told.occasions.size()], "");
        done.clear();
        kept.clear();
        sightings.clear();
        return n;
    }

    private int persons() {
        return book.persons.size();
    }

    private boolean noPerson(int i) {
        return i < 0 || i >= persons();
    }

    private static boolean out(int n, int least, int most) {
        return n < least || n > most;
    }

    private static int of(Item item, int what) {
        return what == 0 ? item.a : what == 1 ? item.b : item.c;
    }

    int person(int i, int what) {
        if (noPerson(i) || out(what, 0, 3)) {
            return BAD;
        }
        return what == 1 ? now.coupons[i] : what == 3 ? now.had[i] : of(book.persons.get(i), what);
    }

    int doing(int q, int what) {
        return out(q, 0, book.doings.size() - 1) || out(what, 0, 2) ? BAD : of(book.doings.get(q), what);
    }

    int occasion(int k, int what) {
        if (out(k, 0, book.occasions.size() - 1) || out(what, 0, 4)) {
            return BAD;
        }
        if (what == 3) {
            return now.taken[k] ? 1 : 0;
        }
        if (what == 4) {
            return canTake(k) ? 1 : 0;
        }
        return of(book.occasions.get(k), what);
    }

    private int cost(int i, int q) {
        int n = book.doings.get(q).b;
        int[] byKind = {n, 2 * n, 1, n};
        return byKind[book.persons.get(i).a];
    }

    private boolean can(int i, int q, int day, int coupons) {
        int kind = book.persons.get(i).a;
        if (kind == 2 && day % 2 == 1) {
            return false;
        }
        return kind == 3 ? coupons > cost(i, q) : coupons >= cost(i, q);
    }

    private boolean canTake(int k) {
        Item o = book.occasions.get(k);
        return !now.taken[k] && o.a == now.day && can(o.b, o.c, o.a, now.coupons[o.b]);
    }

    private int suffers(int j, int i, int q) {
        return i == j ? 0 : Math.max(0, book.doings.get(q).c - book.persons.get(j).c);
    }

    private void remember() {
        done.add(now.copy());
        if (done.size() > 8) {
            done.remove(0);
        }
    }

    int take(int k) {
        if (out(k, 0, book.occasions.size() - 1)) {
            return BAD;
        }
        if (!canTake(k)) {
            return NO;
        }
        remember();
        Item o = book.occasions.get(k);
        now.coupons[o.b] -= cost(o.b, o.c);
        now.had[o.b] += book.doings.get(o.c).a;
        now.taken[k] = true;
        for (int j = 0; j < persons(); j++) {
            now.suffered[j] += suffers(j, o.b, o.c);
        }
        return now.coupons[o.b];
    }

    int pass(int n) {
        if (out(n, 1, 30)) {
            return BAD;
        }
        if (now.day + n > 99) {
            return NO;
        }
        remember();
        now = now.on(now.day + n);
        return now.day;
    }

    int give(int i, int j, int c) {
        if (noPerson(i) || noPerson(j) || i == j || out(c, 1, 15)) {
            return BAD;
        }
        if (now.coupons[i] < c) {
            return NO;
        }
        if (now.coupons[j] + c > 15) {
            return FULL;
        }
        remember();
        now.coupons[i] -= c;
        now.coupons[j] += c;
        now.given[j] += c;
        now.given[i] -= c;
        return now.coupons[i];
    }

    private static int sum(int[] row) {
        return java.util.Arrays.stream(row).sum();
    }

    int ration(int r) {
        if (out(r, 0, 15)) {
            return BAD;
        }
        remember();
        int had = sum(now.coupons);
        java.util.Arrays.fill(now.coupons, r);
        return had;
    }

    int undo() {
        if (done.isEmpty()) {
            return NO;
        }
        now = done.remove(done.size() - 1);
        return done.size();
    }

    private List<Integer> aheadByDays() {
        List<Integer> ahead = new ArrayList<>();
        for (int k = 0; k < book.occasions.size(); k++) {
            if (book.occasions.get(k).a >= now.day && !now.taken[k]) {
                ahead.add(k);
            }
        }
        ahead.sort(Comparator.comparingInt((Integer k) -> book.occasions.get(k).a).thenComparingInt(k -> k));
        return ahead;
    }

    /** WORTH and set of BEST with so many COUPONS, every set of all OCCASIONS tried. */
    private int[] bestWith(int i, int coupons) {
        List<Integer> ahead = aheadByDays();
        int mine = 0;
        for (int k : ahead) {
            mine |= book.occasions.get(k).b == i ? 1 << k : 0;
        }
        int[] best = {0, 0};
        for (int set = 0; set < 1 << book.occasions.size(); set++) {
            if ((set & ~mine) != 0) {
                continue;
            }
            int left = coupons;
            int worth = 0;
            boolean does = true;
            for (int k : ahead) {
                if ((set >> k & 1) == 1) {
                    Item o = book.occasions.get(k);
                    does = does && can(i, o.c, o.a, left);
                    left -= cost(i, o.c);
                    worth += book.doings.get(o.c).a;
                }
            }
            if (does && worth > best[0]) {
                best = new int[] {worth, set};
            }
        }
        return best;
    }

    int best(int i, int what) {
        return noPerson(i) || out(what, 0, 1) ? BAD : bestWith(i, now.coupons[i])[what];
    }

    int more(int i) {
        if (noPerson(i)) {
            return BAD;
        }
        return now.coupons[i] == 15 ? 0 : bestWith(i, now.coupons[i] + 1)[0] - bestWith(i, now.coupons[i])[0];
    }

    private int[][] bestTable() {
        int[][] table = new int[persons()][16];
        for (int i = 0; i < persons(); i++) {
            for (int c = 0; c <= 15; c++) {
                table[i][c] = bestWith(i, c)[0];
            }
        }
        return table;
    }

    private static int worthOf(int[][] table, int[] coupons) {
        int worth = 0;
        for (int i = 0; i < coupons.length; i++) {
            worth += table[i][coupons[i]];
        }
        return worth;
    }

    int giveBest(int what) {
        if (out(what, 0, 1)) {
            return BAD;
        }
        int[][] table = bestTable();
        int most = 0;
        int who = NONE;
        for (int code = 0; code < 64; code++) {
            int i = code / 8;
            int j = code % 8;
            if (noPerson(i) || noPerson(j) || i == j || now.coupons[i] == 0 || now.coupons[j] == 15) {
                continue;
            }
            int[] then = now.coupons.clone();
            then[i]--;
            then[j]++;
            int growth = worthOf(table, then) - worthOf(table, now.coupons);
            if (growth > most) {
                most = growth;
                who = code;
            }
        }
        return who == NONE ? NONE : what == 0 ? who : most;
    }

    private int sharedWorth;
    private int[] sharedWay;

    /** Every way, PERSON 0's most first; only a better one replaces the one found. */
    private void tryWays(int[][] table, int[] way, int i, int left, int worth) {
        if (i == way.length) {
            if (left == 0 && worth > sharedWorth) {
                sharedWorth = worth;
                sharedWay = way.clone();
            }
            return;
        }
        if (left > 15 * (way.length - i)) {
            return;
        }
        for (int c = Math.min(15, left); c >= 0; c--) {
            way[i] = c;
            tryWays(table, way, i + 1, left - c, worth + table[i][c]);
        }
    }

    int shared(int i) {
        if (i != -1 && noPerson(i)) {
            return BAD;
        }
        sharedWorth = -1;
        tryWays(bestTable(), new int[persons()], 0, sum(now.coupons), 0);
        return i == -1 ? sharedWorth : sharedWay[i];
    }

    int rationFor(int s) {
        if (out(s, 0, 999)) {
            return BAD;
        }
        int greatest = NONE;
        for (int r = 0; r <= 15; r++) {
            int suffered = 0;
            for (int i = 0; i < persons(); i++) {
                int set = bestWith(i, r)[1];
                for (int k = 0; k < book.occasions.size(); k++) {
                    for (int j = 0; j < persons() && (set >> k & 1) == 1; j++) {
                        suffered += suffers(j, i, book.occasions.get(k).c);
                    }
                }
            }
            if (suffered <= s) {
                greatest = r;
            }
        }
        return greatest;
    }

    int seen(int i, int q, int day) {
        if (noPerson(i) || out(q, 0, book.doings.size() - 1) || out(day, 0, 99)) {
            return BAD;
        }
        if (sightings.size() == 8) {
            return FULL;
        }
        sightings.add(new Item(i, q, day));
        return sightings.size();
    }

    int forget() {
        int were = sightings.size();
        sightings.clear();
        return were;
    }

    int without() {
        List<Item> sorted = new ArrayList<>(sightings);
        sorted.sort(Comparator.comparingInt(Item::c));
        int bits = 0;
        for (int i = 0; i < persons(); i++) {
            int left = book.persons.get(i).b;
            for (Item did : sorted) {
                if (did.a == i) {
                    if (!can(i, did.b, did.c, left)) {
                        bits |= 1 << i;
                        break;
                    }
                    left -= cost(i, did.b);
                }
            }
        }
        return bits;
    }

    /** Few COUPONS: every order; many: always one of him who has the most and wasn't the last. */
    private static int gone(int[] coupons, int last, int minutes) {
        if (minutes == 0) {
            return 0;
        }
        boolean few = sum(coupons) <= 7;
        int most = 0;
        int pick = -1;
        for (int i = 0; i < coupons.length; i++) {
            if (i == last || coupons[i] == 0) {
                continue;
            }
            if (few) {
                coupons[i]--;
                most = Math.max(most, 1 + gone(coupons, i, minutes - 1));
                coupons[i]++;
            } else if (pick < 0 || coupons[i] > coupons[pick]) {
                pick = i;
            }
        }
        if (few || pick < 0) {
            return most;
        }
        int[] then = coupons.clone();
        then[pick]--;
        return 1 + gone(then, pick, minutes - 1);
    }

    int letGo(int m, int what) {
        if (out(m, 0, 99) || out(what, 0, 1)) {
            return BAD;
        }
        int gone = gone(now.coupons.clone(), -1, m);
        return what == 0 ? gone : sum(now.coupons) - gone;
    }

    int keepOne(int i, int w, int x) {
        if (noPerson(i) || out(w, 0, 99) || out(x, 0, 10)) {
            return BAD;
        }
        if (now.coupons[i] == 0) {
            return NO;
        }
        int loss = bestWith(i, now.coupons[i])[0] - bestWith(i, now.coupons[i] - 1)[0];
        return w * x > 10 * loss ? 1 : 0;
    }

    int net(int i) {
        return noPerson(i) ? BAD : 10000 + now.given[i];
    }

    int heard(int i) {
        return i == -1 ? sum(now.suffered) : noPerson(i) ? BAD : now.suffered[i];
    }

    int year(int z, int what) {
        if (out(z, 0, 9999) || out(what, 0, 1)) {
            return BAD;
        }
        int[] coupons = now.coupons.clone();
        int had = 0;
        for (int k : aheadByDays()) {
            Item o = book.occasions.get(k);
            long x = 7919L * z + 6151L * k + 1;
            long rest = Math.floorMod(Math.multiplyExact(x, x), 65521L);
            if (can(o.b, o.c, o.a, coupons[o.b]) && rest / 8 % 4 != 0) {
                coupons[o.b] -= cost(o.b, o.c);
                had += book.doings.get(o.c).a;
            }
        }
        return what == 0 ? had : sum(coupons);
    }

    int keep() {
        if (kept.size() == 2) {
            return FULL;
        }
        State as = now.copy();
        kept.add(new State(as.day, as.coupons, as.had, as.suffered, as.given, as.taken, text));
        return kept.size();
    }

    int back() {
        if (kept.isEmpty()) {
            return NO;
        }
        now = kept.remove(kept.size() - 1);
        text = now.text;
        done.clear();
        return kept.size();
    }

    int count(int what) {
        int taken = 0;
        for (boolean is : now.taken) {
            taken += is ? 1 : 0;
        }
        int[] counts = {persons(), book.doings.size(), book.occasions.size(), now.day, taken, sum(now.coupons),
            sightings.size(), done.size(), kept.size(), text.length()};
        return out(what, 0, 9) ? BAD : counts[what];
    }
}
