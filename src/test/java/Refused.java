import java.util.ArrayList;
import java.util.List;
import java.util.function.Consumer;
import java.util.function.Supplier;
import java.util.function.ToIntFunction;

/**
 * 'Nothing changes then': of a refused call both its answer and that all which can be asked, undone, brought back or
 * laid afterwards is as it is without that call. Each look is at an object of its own, as looking uses calls up and
 * some looks change what they look at.
 */
final class Refused {
    private final String name;
    private final Supplier<RudeCoupons> making;
    private final List<String> without;

    Refused(String name, Supplier<RudeCoupons> making) {
        this.name = name;
        this.making = making;
        this.without = looks(making);
    }

    void call(String call, ToIntFunction<RudeCoupons> refused, int want) {
        Check.due(name + ": " + call, refused.applyAsInt(making.get()), want);
        List<String> with = looks(() -> {
            RudeCoupons x = making.get();
            refused.applyAsInt(x);
            return x;
        });
        Check.due(name + ": looks behind " + call, with.size(), without.size());
        for (int look = 0; look < with.size() && look < without.size(); look++) {
            Check.same(name + ": look " + look + " behind " + call, with.get(look), without.get(look));
        }
    }

    private static List<String> looks(Supplier<RudeCoupons> making) {
        List<String> looks = new ArrayList<>();
        looks.add(look(making, x -> { }));
        for (int depth = 1; depth <= 9; depth++) {
            looks.add(look(making, times(depth, RudeCoupons::undo)));
        }
        for (int depth = 1; depth <= 3; depth++) {
            looks.add(look(making, times(depth, RudeCoupons::back)));
        }
        looks.add(look(making, RudeCoupons::lay));
        looks.add(look(making, x -> {
            // What an ITEM that stands open says is seen only when it is ended and laid.
            Check.write(x, ",1;");
            x.lay();
        }));
        looks.add(look(making, x -> x.seen(0, 0, 0)));
        looks.add(look(making, RudeCoupons::forget));
        looks.add(look(making, RudeCoupons::keep));
        return looks;
    }

    private static Consumer<RudeCoupons> times(int times, ToIntFunction<RudeCoupons> call) {
        return x -> {
            for (int n = 0; n < times; n++) {
                call.applyAsInt(x);
            }
        };
    }

    private static String look(Supplier<RudeCoupons> making, Consumer<RudeCoupons> then) {
        RudeCoupons x = making.get();
        then.accept(x);
        return allOf(x);
    }

    /** Every answer of those calls that change nothing, some 200 of them at most. */
    static String allOf(RudeCoupons x) {
        StringBuilder all = new StringBuilder(Check.stateOf(x));
        for (int i = 0; i < x.count(0); i++) {
            all.append('|').append(x.best(i, 0)).append(' ').append(x.best(i, 1)).append(' ').append(x.more(i));
            all.append(' ').append(x.shared(i)).append(' ').append(x.keepOne(i, 9, 4));
        }
        all.append('|').append(x.shared(-1)).append(' ').append(x.heard(-1));
        for (int what = 0; what <= 1; what++) {
            all.append('|').append(x.giveBest(what)).append(' ').append(x.letGo(99, what)).append(' ').append(x.letGo(5, what));
            all.append(' ').append(x.year(0, what)).append(' ').append(x.year(77, what));
        }
        return all.append('|').append(x.rationFor(0)).append(' ').append(x.rationFor(20)).toString();
    }
}
