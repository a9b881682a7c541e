import java.util.List;
import java.util.function.Predicate;
import java.util.function.ToLongFunction;

/** The boundary cases of promises 8 to 12, a test for each reason to refuse, with a look at the state behind it. */
public final class MixBoundaryTests {
    private static final int NONE = Elections.NONE;
    private static final int MIN = Elections.MIN;
    private static final int MAX = Elections.MAX;

    public static void main(String[] args) {
        placeOnlyWhenClosed();
        placeOfNoSuchPlace();
        placeToNoSuchPlace();
        placeOfNoExponent();
        placeOfAnElectionOfNobody();
        placeInPlaceOfWhatWasTold();
        placeAtItsEdges();
        forgeOnlyWhenClosed();
        forgeAtNoSuchPlace();
        forgeNotOfTheGroup();
        forgeOfAnElectionOfNobody();
        forgeInPlaceOfWhatWas();
        forgeAtItsEdges();
        mixOnlyWhenClosed();
        mixOfAStagingThatIsNotWhole();
        mixUpTo4();
        mixNotWhileACoinIsDue();
        mixNotBehindAShare();
        shadowOnlyWhenClosed();
        shadowOfAStagingThatIsNotWhole();
        shadowOfNoMix();
        shadowUpTo8();
        shadowNotWhileACoinIsDue();
        shadowNotBehindAShare();
        coinOfNoShadow();
        coinOnce();
        coinThatIsNone();
        Due.end("MixBoundaryTests");
    }

    private static List<Run> notClosed(int voters) {
        return List.of(Elections.setup(voters), Elections.open(voters), Elections.told(voters));
    }

    /** CLOSED in all its ways; the second has a whole STAGING and a FORGED pair. */
    private static List<Run> closed() {
        Run half = Elections.closed(3);
        half.place(0, 2, 1);
        return List.of(Elections.closed(3), Elections.staged(3), half, Elections.due(3), Elections.shared(3));
    }

    private static void refusedWhenClosed(String sentence, Predicate<Run> call) {
        for (Run run : closed()) {
            Refusals.refused(sentence, run, call);
        }
    }

    // ---- promise 8

    private static void placeOnlyWhenClosed() {
        for (Run run : notClosed(3)) {
            Refusals.refused("8: it isn't CLOSED", run, x -> x.place(0, 1, 1));
        }
    }

    private static void placeOfNoSuchPlace() {
        for (int i : new int[] {MIN, -2, -1, 3, 4, 39, 40, MAX}) {
            refusedWhenClosed("8: no such place: " + i, x -> x.place(i, 0, 1));
        }
    }

    private static void placeToNoSuchPlace() {
        for (int to : new int[] {MIN, -2, -1, 3, 4, 39, 40, MAX}) {
            refusedWhenClosed("8: no such place to go to: " + to, x -> x.place(0, to, 1));
        }
    }

    private static void placeOfNoExponent() {
        for (int r : new int[] {MIN, -11, -1, 11, 12, 22, MAX}) {
            refusedWhenClosed("8: no such EXPONENT: " + r, x -> x.place(0, 0, r));
        }
    }

    private static void placeOfAnElectionOfNobody() {
        for (Run run : List.of(Elections.closed(0), Elections.mixed(0), Elections.due(0))) {
            Refusals.refused("8: nobody's places", run, x -> x.place(0, 0, 0));
            Refusals.refused("8: nobody's places", run, x -> x.place(-1, -1, 0));
        }
        Refusals.refused("8: TOLD, nobody's places", Elections.told(0), x -> x.place(0, 0, 0));
    }

    private static void placeInPlaceOfWhatWasTold() {
        Run x = Elections.closed(2);
        Due.yes("8: told", x.place(0, 0, 1));
        Due.yes("8: told", x.place(1, 0, 2));
        Due.same("8: both to the same", x.about(15), 0);
        Due.yes("8: in place of what was told of 1", x.place(1, 1, 3));
        Due.yes("8: in place of what was told of 0", x.place(0, 0, 4));
        Due.same("8: whole", x.about(15), 1);
        x.mix();
        Due.same("8: the last told of 0", x.list(1, 0, 0), x.list(0, 0, 0) * Reckon.pow(4, 4, 23) % 23);
        Due.same("8: the last told of 1", x.list(1, 1, 0), x.list(0, 1, 0) * Reckon.pow(4, 3, 23) % 23);
    }

    /** The first and the last place and EXPONENT; also while a COIN is due and behind SHARES, for it is CLOSED. */
    private static void placeAtItsEdges() {
        for (int i : new int[] {0, 39}) {
            for (int to : new int[] {0, 39}) {
                for (int r : new int[] {0, 10}) {
                    Run x = Elections.closed(40);
                    Due.yes("8: place(" + i + ", " + to + ", " + r + ")", x.place(i, to, r));
                }
            }
        }
        for (Run x : List.of(Elections.closed(3), Elections.mixed(3), Elections.due(3), Elections.accepted(3),
                Elections.rejected(3), Elections.shared(3), Elections.enough(3))) {
            Due.yes("8: CLOSED", x.place(2, 0, 10));
            Due.yes("8: CLOSED", x.place(0, 2, 0));
            Due.yes("8: CLOSED", x.place(1, 1, 0));
            Due.same("8: whole", x.about(15), 1);
        }
    }

    // ---- promise 9

    private static void forgeOnlyWhenClosed() {
        for (Run run : notClosed(3)) {
            Refusals.refused("9: it isn't CLOSED", run, x -> x.forge(0, 4, 6));
        }
    }

    private static void forgeAtNoSuchPlace() {
        for (int to : new int[] {MIN, -2, -1, 3, 4, 39, 40, MAX}) {
            refusedWhenClosed("9: no such place: " + to, x -> x.forge(to, 4, 6));
        }
    }

    private static void forgeNotOfTheGroup() {
        for (int n : new int[] {MIN, -22, -19, -1, 0, 5, 22, 23, 24, 27, MAX}) {
            refusedWhenClosed("9: a isn't of the GROUP: " + n, x -> x.forge(0, n, 6));
            refusedWhenClosed("9: b isn't of the GROUP: " + n, x -> x.forge(0, 4, n));
        }
    }

    private static void forgeOfAnElectionOfNobody() {
        for (Run run : List.of(Elections.closed(0), Elections.mixed(0), Elections.due(0), Elections.told(0))) {
            Refusals.refused("9: nobody's places", run, x -> x.forge(0, 4, 6));
            Refusals.refused("9: nobody's places", run, x -> x.forge(-1, 4, 6));
        }
    }

    private static void forgeInPlaceOfWhatWas() {
        Run x = Elections.closed(2);
        x.forge(1, 2, 3);
        Due.yes("9: in place of what was", x.forge(1, 4, 6));
        Elections.mixOn(x, 2, 0, 1);
        Due.same("9: the last FORGED", x.list(1, 1, 0), 4);
        Due.same("9: the last FORGED", x.list(1, 1, 1), 6);
        Due.same("9: nothing FORGED at 0", x.list(1, 0, 0), x.list(0, 0, 0) * 4 % 23);
    }

    private static void forgeAtItsEdges() {
        for (int to : new int[] {0, 39}) {
            for (int[] pair : new int[][] {{1, 1}, {1, 18}, {18, 1}, {18, 18}}) {
                Run x = Elections.closed(40);
                Due.yes("9: forge", x.forge(to, pair[0], pair[1]));
                Elections.mixOn(x, 40, 7, 1);
                Due.same("9: FORGED a", x.list(1, to, 0), pair[0]);
                Due.same("9: FORGED b", x.list(1, to, 1), pair[1]);
            }
        }
        for (Run x : List.of(Elections.closed(3), Elections.mixed(3), Elections.due(3), Elections.accepted(3),
                Elections.rejected(3), Elections.shared(3), Elections.enough(3))) {
            Due.yes("9: CLOSED", x.forge(2, 4, 6));
        }
    }

    // ---- promises 10 and 11

    /** Also of nobody's ballots, whose STAGING is always whole, so that the stage alone refuses. */
    private static void refusedUnlessClosed(String sentence, ToLongFunction<Run> call) {
        for (int voters : new int[] {0, 3}) {
            for (Run run : notClosed(voters)) {
                Refusals.refused(sentence, run, call, NONE);
            }
        }
        Run fresh = new Run(11, 1, 1, 1);
        Refusals.refused(sentence, fresh, call, NONE);
        Run staged = Elections.enough(3);
        Elections.placeAll(staged, 3, 0, 0);
        staged.tally();
        Refusals.refused(sentence + ": TOLD, with what was staged ahead of it", staged, call, NONE);
    }

    private static void refusedUnlessWhole(String sentence, Run run, ToLongFunction<Run> call) {
        Refusals.refused(sentence + ": empty", run, call, NONE);
        for (int left = 0; left < 3; left++) {
            Run missing = run.copy();
            Run twice = run.copy();
            Elections.placeAll(twice, 3, 1, 2);
            for (int i = 0; i < 3; i++) {
                if (i != left) {
                    missing.place(i, i, 2);
                }
            }
            missing.forge(left, 2, 3);
            twice.place(left, left, 2);
            Refusals.refused(sentence + ": place " + left + " goes nowhere", missing, call, NONE);
            Refusals.refused(sentence + ": place " + left + " goes where another does", twice, call, NONE);
        }
    }

    private static Run stagedOn(Run run) {
        Elections.placeAll(run, 3, 1, 2);
        run.forge(1, 2, 3);
        return run;
    }

    private static void mixOnlyWhenClosed() {
        refusedUnlessClosed("10: it isn't CLOSED", Run::mix);
    }

    private static void mixOfAStagingThatIsNotWhole() {
        refusedUnlessWhole("10: the STAGING isn't whole", Elections.closed(3), Run::mix);
        refusedUnlessWhole("10: the STAGING isn't whole", Elections.accepted(3), Run::mix);
    }

    private static void mixUpTo4() {
        Run x = Elections.closed(3);
        for (int m = 1; m <= 4; m++) {
            Due.same("10: its number", Elections.mixOn(x, 3, m, m), m);
            Due.same("10: mixes", x.about(10), m);
            Due.same("10: no round of it yet", x.about(11), 0);
            Elections.roundOn(x, 3, 1, 2, m % 2);
        }
        Refusals.refused("10: there are 4", stagedOn(x), Run::mix, NONE);
        Due.same("10: but a SHADOW", x.shadow(), 2);
        Run nobody = Elections.mixed(0);
        nobody.mix();
        nobody.mix();
        Due.same("10: the fourth of nobody", nobody.mix(), 4);
        Refusals.refused("10: there are 4, of nobody", nobody, Run::mix, NONE);
    }

    private static void mixNotWhileACoinIsDue() {
        Run x = stagedOn(Elections.due(3));
        Refusals.refused("10: a COIN is due", x, Run::mix, NONE);
        Refusals.refused("10: a COIN is due, of nobody", Elections.due(0), Run::mix, NONE);
        x.coin(0);
        Due.same("10: behind the COIN", x.mix(), 2);
    }

    private static void mixNotBehindAShare() {
        Refusals.refused("10: some SHARE was given", stagedOn(Elections.shared(3)), Run::mix, NONE);
        Refusals.refused("10: K SHARES were given", stagedOn(Elections.enough(3)), Run::mix, NONE);
        Refusals.refused("10: some SHARE was given, of nobody", Elections.shared(0), Run::mix, NONE);
        Run withoutRound = Elections.mixed(3);
        withoutRound.share(2);
        Refusals.refused("10: some SHARE was given", stagedOn(withoutRound), Run::mix, NONE);
    }

    private static void shadowOnlyWhenClosed() {
        refusedUnlessClosed("11: it isn't CLOSED", Run::shadow);
    }

    private static void shadowOfAStagingThatIsNotWhole() {
        refusedUnlessWhole("11: the STAGING isn't whole", Elections.mixed(3), Run::shadow);
        refusedUnlessWhole("11: the STAGING isn't whole", Elections.accepted(3), Run::shadow);
    }

    private static void shadowOfNoMix() {
        Refusals.refused("11: there is no mix", Elections.staged(3), Run::shadow, NONE);
        Refusals.refused("11: there is no mix, of nobody", Elections.closed(0), Run::shadow, NONE);
    }

    /** 1 .. 8 of this mix: the next mix has 8 of its own. */
    private static void shadowUpTo8() {
        Run x = Elections.mixed(3);
        for (int m = 1; m <= 2; m++) {
            for (int round = 1; round <= 8; round++) {
                Elections.placeAll(x, 3, round, round);
                Due.same("11: its round", x.shadow(), round);
                Due.same("11: rounds", x.about(11), round);
                Due.same("11: a COIN is due", x.about(14), 1);
                Due.same("11: accepted", x.coin(round % 2), 1);
            }
            Refusals.refused("11: there are 8", stagedOn(x.copy()), Run::shadow, NONE);
            Due.same("11: but a mix", Elections.mixOn(x, 3, 1, 1), m + 1);
        }
    }

    private static void shadowNotWhileACoinIsDue() {
        Run x = stagedOn(Elections.due(3));
        Refusals.refused("11: a COIN is due", x, Run::shadow, NONE);
        Refusals.refused("11: a COIN is due, of nobody", Elections.due(0), Run::shadow, NONE);
        x.coin(1);
        Due.same("11: behind the COIN", x.shadow(), 2);
    }

    private static void shadowNotBehindAShare() {
        Refusals.refused("11: some SHARE was given", stagedOn(Elections.shared(3)), Run::shadow, NONE);
        Refusals.refused("11: K SHARES were given", stagedOn(Elections.enough(3)), Run::shadow, NONE);
        Refusals.refused("11: some SHARE was given, of nobody", Elections.shared(0), Run::shadow, NONE);
    }

    // ---- promise 12

    private static void coinOfNoShadow() {
        for (int c = 0; c < 2; c++) {
            int coin = c;
            for (int voters : new int[] {0, 3}) {
                for (Run run : List.of(Elections.setup(voters), Elections.open(voters), Elections.closed(voters),
                        Elections.staged(voters), Elections.mixed(voters))) {
                    Refusals.refused("12: none is due, there is no SHADOW", run, x -> x.coin(coin), NONE);
                }
            }
            Run second = Elections.accepted(3);
            Elections.mixOn(second, 3, 1, 1);
            Refusals.refused("12: none is due, no SHADOW of the latest mix", second, x -> x.coin(coin), NONE);
        }
    }

    private static void coinOnce() {
        for (int c = 0; c < 2; c++) {
            int coin = c;
            for (Run run : List.of(Elections.accepted(3), Elections.rejected(3), Elections.shared(3), Elections.told(3),
                    Elections.accepted(0), Elections.told(0))) {
                Refusals.refused("12: none is due, it was told", run, x -> x.coin(coin), NONE);
            }
        }
    }

    private static void coinThatIsNone() {
        for (int c : new int[] {MIN, -2, -1, 2, 3, 256, 65536, MAX}) {
            Refusals.refused("12: no coin: " + c, Elections.due(3), x -> x.coin(c), NONE);
            Refusals.refused("12: no coin, of nobody: " + c, Elections.due(0), x -> x.coin(c), NONE);
        }
        Due.same("12: still due", Elections.due(3).about(14), 1);
        for (int coin = 0; coin < 2; coin++) {
            Run x = Elections.due(3);
            x.coin(2);
            Due.same("12: a coin", x.coin(coin), 1);
            Due.same("12: no longer due", x.about(14), 0);
            Due.same("12: none rejected", x.about(12), 0);
        }
        Due.same("12: rejected", Elections.rejected(3).about(12), 1);
    }
}
