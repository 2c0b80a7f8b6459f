import java.util.List;
import java.util.function.Supplier;

/**
 * 'BAD: a number is none that is told': each call with each number on both sides of each of its bounds, the least and
 * the greatest int among them, in states from the emptiest to the fullest. BAD is answered just where a number is out
 * of its bounds, ahead of each other refusal, and nothing changes then; no call throws or fails to end.
 */
public final class AnyNumbersTest {
    private static final int SECONDS = 300;

    interface Call {
        int on(RudeCoupons x, int[] a);
    }

    interface Bounds {
        int[] in(RudeCoupons x);
    }

    /** A call of the face with the bounds of each of its numbers. */
    record Asked(String name, Call call, Bounds... bounds) {
    }

    private static final Bounds PERSON = x -> new int[] {0, x.count(0) - 1};
    private static final Bounds PERSON_OR_ALL = x -> new int[] {-1, x.count(0) - 1};
    private static final Bounds DOING = x -> new int[] {0, x.count(1) - 1};
    private static final Bounds OCCASION = x -> new int[] {0, x.count(2) - 1};

    private static Bounds from(int least, int most) {
        return x -> new int[] {least, most};
    }

    private static final List<Asked> FACE = List.of(
            new Asked("write", (x, a) -> x.write(a[0]), from(32, 126)),
            new Asked("wipe", (x, a) -> x.wipe()),
            new Asked("fault", (x, a) -> x.fault()),
            new Asked("lay", (x, a) -> x.lay()),
            new Asked("person", (x, a) -> x.person(a[0], a[1]), PERSON, from(0, 3)),
            new Asked("doing", (x, a) -> x.doing(a[0], a[1]), DOING, from(0, 2)),
            new Asked("occasion", (x, a) -> x.occasion(a[0], a[1]), OCCASION, from(0, 4)),
            new Asked("take", (x, a) -> x.take(a[0]), OCCASION),
            new Asked("pass", (x, a) -> x.pass(a[0]), from(1, 30)),
            new Asked("give", (x, a) -> x.give(a[0], a[1], a[2]), PERSON, PERSON, from(1, 15)),
            new Asked("ration", (x, a) -> x.ration(a[0]), from(0, 15)),
            new Asked("undo", (x, a) -> x.undo()),
            new Asked("best", (x, a) -> x.best(a[0], a[1]), PERSON, from(0, 1)),
            new Asked("more", (x, a) -> x.more(a[0]), PERSON),
            new Asked("giveBest", (x, a) -> x.giveBest(a[0]), from(0, 1)),
            new Asked("shared", (x, a) -> x.shared(a[0]), PERSON_OR_ALL),
            new Asked("rationFor", (x, a) -> x.rationFor(a[0]), from(0, 999)),
            new Asked("seen", (x, a) -> x.seen(a[0], a[1], a[2]), PERSON, DOING, from(0, 99)),
            new Asked("forget", (x, a) -> x.forget()),
            new Asked("without", (x, a) -> x.without()),
            new Asked("letGo", (x, a) -> x.letGo(a[0], a[1]), from(0, 99), from(0, 1)),
            new Asked("keepOne", (x, a) -> x.keepOne(a[0], a[1], a[2]), PERSON, from(0, 99), from(0, 10)),
            new Asked("net", (x, a) -> x.net(a[0]), PERSON),
            new Asked("heard", (x, a) -> x.heard(a[0]), PERSON_OR_ALL),
            new Asked("year", (x, a) -> x.year(a[0], a[1]), from(0, 9999), from(0, 1)),
            new Asked("keep", (x, a) -> x.keep()),
            new Asked("back", (x, a) -> x.back()),
            new Asked("count", (x, a) -> x.count(a[0]), from(0, 9)));

    public static void main(String[] args) {
        endInTime();
        Check.due("calls of the face", FACE.size(), 28);
        sweep("new", RudeCoupons::new);
        sweep("used", States::used);
        sweep("full", States::full);
        sweep("bare", States::bare);
        sweep("shrunk", States::shrunk);
        sweep("wiped and full of faults", () -> Check.written("x".repeat(200)));
        Check.end();
    }

    private static void endInTime() {
        Thread watch = new Thread(() -> {
            try {
                Thread.sleep(1000L * SECONDS);
            } catch (InterruptedException stopped) {
                return;
            }
            System.out.println("a call does not end");
            Runtime.getRuntime().halt(1);
        });
        watch.setDaemon(true);
        watch.start();
    }

    private static void sweep(String state, Supplier<RudeCoupons> making) {
        String before = Refused.allOf(making.get());
        for (Asked asked : FACE) {
            int[][] edges = new int[asked.bounds.length][];
            for (int n = 0; n < edges.length; n++) {
                edges[n] = edgesOf(asked.bounds[n].in(making.get()));
            }
            sweepFrom(state, making, before, asked, edges, new int[edges.length], 0);
        }
    }

    private static void sweepFrom(String state, Supplier<RudeCoupons> making, String before, Asked asked, int[][] edges,
            int[] numbers, int at) {
        if (at == numbers.length) {
            ask(state, making.get(), before, asked, numbers);
            return;
        }
        for (int edge : edges[at]) {
            numbers[at] = edge;
            sweepFrom(state, making, before, asked, edges, numbers, at + 1);
        }
    }

    /** Beside those at the bounds: numbers that a cast to char, byte or short, or a shift, would bring into them. */
    private static int[] edgesOf(int[] bounds) {
        int least = bounds[0];
        int most = bounds[1];
        return new int[] {Integer.MIN_VALUE, Integer.MIN_VALUE + Math.max(0, least), least - 1, least, most, most + 1,
            least + 32, least + 256, least + 65536, Integer.MAX_VALUE};
    }

    private static void ask(String state, RudeCoupons x, String before, Asked asked, int[] numbers) {
        boolean bad = asked.name.equals("give") && numbers[0] == numbers[1];
        for (int n = 0; n < numbers.length; n++) {
            int[] bounds = asked.bounds[n].in(x);
            bad = bad || numbers[n] < bounds[0] || numbers[n] > bounds[1];
        }
        int got = asked.call.on(x, numbers);
        String told = state + ": " + asked.name + java.util.Arrays.toString(numbers);
        Check.due(told + " BAD", got == RudeCoupons.BAD ? 1 : 0, bad ? 1 : 0);
        Check.due(told + " is an answer", got >= RudeCoupons.NONE ? 1 : 0, 1);
        if (got < 0) {
            Check.same(told + " changes nothing", Refused.allOf(x), before);
        }
    }
}
