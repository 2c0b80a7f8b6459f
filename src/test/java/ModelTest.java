import java.util.ArrayList;
import java.util.List;
import java.util.Random;

/** Random runs of calls, each answer held against the Model's; the seed is fixed, so a run can be had again. */
public final class ModelTest {
    private static final int RUNS = 700;
    private static final int CALLS = 512;

    private final Random random;
    private final RudeCoupons x = new RudeCoupons();
    private final Model model = new Model();
    private final List<String> calls = new ArrayList<>();
    private boolean wrong = false;

    private ModelTest(long seed) {
        random = new Random(seed);
    }

    public static void main(String[] args) {
        int[] timesOf = new int[NAMES.length];
        for (long seed = 1; seed <= RUNS; seed++) {
            ModelTest test = new ModelTest(seed);
            test.run(timesOf);
            if (test.wrong) {
                System.out.println("seed " + seed + ": " + test.calls);
                System.exit(1);
            }
        }
        for (int c = 0; c < NAMES.length; c++) {
            Check.due("calls of " + NAMES[c] + " at least", Math.min(100, timesOf[c]), 100);
        }
        Check.end();
    }

    private static final String[] NAMES = {
        "write", "wipe", "fault", "lay", "person", "doing", "occasion", "take", "pass", "give", "ration", "undo",
        "best", "more", "giveBest", "shared", "rationFor", "seen", "forget", "without", "letGo", "keepOne", "net",
        "heard", "year", "keep", "back", "count"};
    /** How often each is called beside the others; the dear ones seldom. */
    private static final int[] OFTEN = {
        4, 1, 2, 1, 6, 3, 8, 20, 16, 12, 3, 10,
        6, 4, 2, 1, 2, 8, 1, 4, 5, 6, 3,
        4, 6, 4, 3, 8};

    private void run(int[] timesOf) {
        if (random.nextInt(8) != 0) {
            layText(timesOf);
        }
        int weights = 0;
        for (int often : OFTEN) {
            weights += often;
        }
        while (calls.size() < CALLS && !wrong) {
            int at = random.nextInt(weights);
            int c = 0;
            while (at >= OFTEN[c]) {
                at -= OFTEN[c];
                c++;
            }
            if (c == 3 || c == 1) {
                layText(timesOf);
            } else {
                call(c, timesOf);
            }
        }
    }

    private void layText(int[] timesOf) {
        if (calls.size() > CALLS / 2 || random.nextInt(4) == 0 && !calls.isEmpty()) {
            ask(3, 0, 0, 0, timesOf);
            return;
        }
        ask(1, 0, 0, 0, timesOf);
        String text = text();
        for (int i = 0; i < text.length() && !wrong; i++) {
            ask(0, text.charAt(i), 0, 0, timesOf);
        }
        ask(2, 0, 0, 0, timesOf);
        ask(3, 0, 0, 0, timesOf);
    }

    private String text() {
        StringBuilder text = new StringBuilder();
        int persons = 1 + random.nextInt(random.nextInt(10) == 0 ? 6 : 4);
        int doings = random.nextInt(12) == 0 ? 0 : 1 + random.nextInt(5);
        int lastDay = random.nextInt(5) == 0 ? 60 : 1 + random.nextInt(9);
        int most = random.nextBoolean() ? 15 : 5;
        for (int i = 0; i < persons; i++) {
            item(text, 'p', random.nextInt(4), random.nextInt(most + 1), random.nextInt(10));
        }
        for (int q = 0; q < doings; q++) {
            item(text, 'd', random.nextInt(random.nextBoolean() ? 31 : 5), 1 + random.nextInt(3), random.nextInt(10));
        }
        for (int k = random.nextInt(11); k > 0 && doings > 0; k--) {
            item(text, 'o', random.nextInt(lastDay + 1), random.nextInt(persons), random.nextInt(doings));
        }
        if (random.nextInt(4) == 0) {
            spoil(text);
        }
        return text.toString();
    }

    private void item(StringBuilder text, char letter, int a, int b, int c) {
        boolean zero = random.nextInt(15) == 0 && a < 10;
        text.append(letter).append(zero ? "0" : "").append(a).append(',').append(b).append(',').append(c).append(';');
    }

    private void spoil(StringBuilder text) {
        int place = random.nextInt(text.length());
        String signs = "0123456789,;pdo x";
        char sign = signs.charAt(random.nextInt(signs.length()));
        switch (random.nextInt(4)) {
            case 0:
                text.setCharAt(place, sign);
                break;
            case 1:
                text.insert(place, sign);
                break;
            case 2:
                text.deleteCharAt(place);
                break;
            default:
                text.append(text);
                break;
        }
    }

    private int number(int least, int most) {
        int dice = random.nextInt(40);
        if (dice == 0) {
            return least - 1;
        }
        if (dice == 1) {
            return most + 1;
        }
        if (dice == 2) {
            return random.nextInt();
        }
        return least + random.nextInt(most - least + 1);
    }

    private int person() {
        return number(0, model.count(0) - 1);
    }

    private int doing() {
        return number(0, Math.max(0, model.count(1) - 1));
    }

    private int occasion() {
        int any = number(0, Math.max(0, model.count(2) - 1));
        for (int k = 0; k < model.count(2); k++) {
            if (random.nextInt(3) == 0 && model.occasion(k, 4) == 1) {
                return k;
            }
        }
        return any;
    }

    private void call(int c, int[] timesOf) {
        int few = random.nextInt(3) == 0 ? 15 : 3;
        switch (NAMES[c]) {
            case "write": ask(c, number(32, 126), 0, 0, timesOf); break;
            case "person": ask(c, person(), number(0, 3), 0, timesOf); break;
            case "doing": ask(c, doing(), number(0, 2), 0, timesOf); break;
            case "occasion": ask(c, occasion(), number(0, 4), 0, timesOf); break;
            case "take": ask(c, occasion(), 0, 0, timesOf); break;
            case "pass": ask(c, number(1, random.nextInt(8) == 0 ? 30 : 2), 0, 0, timesOf); break;
            case "give": ask(c, person(), person(), number(1, few), timesOf); break;
            case "ration": ask(c, number(0, 15), 0, 0, timesOf); break;
            case "best": ask(c, person(), number(0, 1), 0, timesOf); break;
            case "more": ask(c, person(), 0, 0, timesOf); break;
            case "giveBest": ask(c, number(0, 1), 0, 0, timesOf); break;
            case "shared": ask(c, number(-1, model.count(0) - 1), 0, 0, timesOf); break;
            case "rationFor": ask(c, number(0, random.nextInt(5) == 0 ? 999 : 40), 0, 0, timesOf); break;
            case "seen": ask(c, person(), doing(), number(0, 99), timesOf); break;
            case "letGo": ask(c, number(0, random.nextBoolean() ? 99 : 9), number(0, 1), 0, timesOf); break;
            case "keepOne": ask(c, person(), number(0, random.nextBoolean() ? 99 : 20), number(0, 10), timesOf); break;
            case "net": ask(c, person(), 0, 0, timesOf); break;
            case "heard": ask(c, number(-1, model.count(0) - 1), 0, 0, timesOf); break;
            case "year": ask(c, number(0, 9999), number(0, 1), 0, timesOf); break;
            case "count": ask(c, number(0, 9), 0, 0, timesOf); break;
            default: ask(c, 0, 0, 0, timesOf); break;
        }
    }

    private void ask(int c, int a, int b, int d, int[] timesOf) {
        timesOf[c]++;
        String call = NAMES[c] + "(" + a + ", " + b + ", " + d + ")";
        int got = answer(NAMES[c], a, b, d);
        int want = due(NAMES[c], a, b, d);
        calls.add(call + " " + got);
        Check.due(call, got, want);
        wrong = wrong || got != want;
    }

    private int answer(String name, int a, int b, int d) {
        switch (name) {
            case "write": return x.write(a);
            case "wipe": return x.wipe();
            case "fault": return x.fault();
            case "lay": return x.lay();
            case "person": return x.person(a, b);
            case "doing": return x.doing(a, b);
            case "occasion": return x.occasion(a, b);
            case "take": return x.take(a);
            case "pass": return x.pass(a);
            case "give": return x.give(a, b, d);
            case "ration": return x.ration(a);
            case "undo": return x.undo();
            case "best": return x.best(a, b);
            case "more": return x.more(a);
            case "giveBest": return x.giveBest(a);
            case "shared": return x.shared(a);
            case "rationFor": return x.rationFor(a);
            case "seen": return x.seen(a, b, d);
            case "forget": return x.forget();
            case "without": return x.without();
            case "letGo": return x.letGo(a, b);
            case "keepOne": return x.keepOne(a, b, d);
            case "net": return x.net(a);
            case "heard": return x.heard(a);
            case "year": return x.year(a, b);
            case "keep": return x.keep();
            case "back": return x.back();
            default: return x.count(a);
        }
    }

    private int due(String name, int a, int b, int d) {
        switch (name) {
            case "write": return model.write(a);
            case "wipe": return model.wipe();
            case "fault": return model.fault();
            case "lay": return model.lay();
            case "person": return model.person(a, b);
            case "doing": return model.doing(a, b);
            case "occasion": return model.occasion(a, b);
            case "take": return model.take(a);
            case "pass": return model.pass(a);
            case "give": return model.give(a, b, d);
            case "ration": return model.ration(a);
            case "undo": return model.undo();
            case "best": return model.best(a, b);
            case "more": return model.more(a);
            case "giveBest": return model.giveBest(a);
            case "shared": return model.shared(a);
            case "rationFor": return model.rationFor(a);
            case "seen": return model.seen(a, b, d);
            case "forget": return model.forget();
            case "without": return model.without();
            case "letGo": return model.letGo(a, b);
            case "keepOne": return model.keepOne(a, b, d);
            case "net": return model.net(a);
            case "heard": return model.heard(a);
            case "year": return model.year(a, b);
            case "keep": return model.keep();
            case "back": return model.back();
            default: return model.count(a);
        }
    }
}
