import java.util.ArrayList;
import java.util.List;
import java.util.function.Consumer;
import java.util.function.Predicate;
import java.util.function.ToLongFunction;

/** Looks whether a refused call answers what is due and changes nothing, neither to be asked for nor hidden. */
final class Refusals {
    private Refusals() {
    }

    static void refused(String sentence, Run run, Predicate<Run> call) {
        refused(sentence, run, x -> call.test(x) ? 1 : 0, 0);
    }

    static void refused(String sentence, Run run, ToLongFunction<Run> call, long due) {
        refused(sentence, run, call, due, waysOn());
    }

    /** Behind the call, and behind each way on from there, all is as if the call had not been. */
    static void refused(String sentence, Run run, ToLongFunction<Run> call, long due, List<Consumer<Run>> waysOn) {
        Run with = run.copy();
        Due.same(sentence, call.applyAsLong(with), due);
        Look.alike(sentence, run, with);
        for (Consumer<Run> wayOn : waysOn) {
            Run without = run.copy();
            Run behind = with.copy();
            wayOn.accept(without);
            wayOn.accept(behind);
            Due.yes(sentence + ": the same answers later, in " + behind,
                without.answersFrom(run.size()).equals(behind.answersFrom(with.size())));
            Look.alike(sentence, without, behind);
        }
    }

    /** Each brings to light what can't be asked for: f, the last ballots, what is staged of each place and FORGED. */
    private static List<Consumer<Run>> waysOn() {
        List<Consumer<Run>> ways = new ArrayList<>();
        ways.add(Refusals::mixAsItStands);
        ways.add(Refusals::shadowAsItStands);
        for (int place = 0; place < Elections.VOTERS; place++) {
            int left = place;
            ways.add(x -> mixAllPlacedBut(x, left));
        }
        ways.add(Refusals::toTheEnd);
        return ways;
    }

    private static void mixAsItStands(Run x) {
        x.coin(0);
        x.close();
        x.mix();
        x.share(1);
    }

    private static void shadowAsItStands(Run x) {
        x.coin(1);
        x.shadow();
        x.coin(0);
    }

    private static void mixAllPlacedBut(Run x, int left) {
        x.coin(0);
        for (int i = 0; i < Elections.VOTERS; i++) {
            if (i != left) {
                x.place(i, i, 1);
            }
        }
        x.mix();
        x.shadow();
    }

    private static void placeAll(Run x) {
        for (int i = 0; i < Elections.VOTERS; i++) {
            x.place(i, Elections.VOTERS - 1 - i, i + 1);
        }
    }

    private static void toTheEnd(Run x) {
        x.voter();
        x.key();
        x.cast(1, 1, 6);
        x.close();
        x.coin(1);
        placeAll(x);
        x.mix();
        for (int coin = 0; coin < 2; coin++) {
            placeAll(x);
            x.shadow();
            x.coin(coin);
        }
        for (int j = 1; j <= 3; j++) {
            x.share(j);
        }
        x.tally();
    }
}
