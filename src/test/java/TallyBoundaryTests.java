import java.util.List;

/** The boundary cases of promises 13 to 15, a test for each reason to refuse, with a look at the state behind it. */
public final class TallyBoundaryTests {
    private static final int NONE = Elections.NONE;
    private static final int MIN = Elections.MIN;
    private static final int MAX = Elections.MAX;

    public static void main(String[] args) {
        shareOnlyWhenClosed();
        shareOfNoSuchTrustee();
        shareOnce();
        shareOfNoMix();
        shareNotWhileACoinIsDue();
        shareAtItsEdges();
        tallyOnlyWhenClosed();
        tallyNotIfSomeRoundWasRejected();
        tallyNotIfSomeMixHasNoRound();
        tallyNotOfFewerThanK();
        tallyOfKAndMore();
        countOnlyWhenTold();
        countOfOthers();
        countAtItsEdges();
        Due.end("TallyBoundaryTests");
    }

    // ---- promise 13

    private static void shareOnlyWhenClosed() {
        for (int voters : new int[] {0, 3}) {
            for (Run run : List.of(Elections.setup(voters), Elections.open(voters), Elections.told(voters))) {
                Refusals.refused("13: it isn't CLOSED", run, x -> x.share(2), NONE);
            }
        }
    }

    private static void shareOfNoSuchTrustee() {
        for (int j : new int[] {MIN, -2, -1, 0, 4, 5, 6, MAX}) {
            Refusals.refused("13: no such trustee: " + j, Elections.accepted(3), x -> x.share(j), NONE);
            Refusals.refused("13: no such trustee: " + j, Elections.shared(3), x -> x.share(j), NONE);
        }
    }

    private static void shareOnce() {
        Refusals.refused("13: it has", Elections.shared(3), x -> x.share(3), NONE);
        Refusals.refused("13: it has", Elections.enough(3), x -> x.share(1), NONE);
        Refusals.refused("13: it has, of nobody", Elections.shared(0), x -> x.share(3), NONE);
    }

    private static void shareOfNoMix() {
        Refusals.refused("13: there is no mix", Elections.closed(3), x -> x.share(1), NONE);
        Refusals.refused("13: there is no mix", Elections.staged(3), x -> x.share(1), NONE);
        Refusals.refused("13: there is no mix, of nobody", Elections.closed(0), x -> x.share(1), NONE);
    }

    private static void shareNotWhileACoinIsDue() {
        Refusals.refused("13: a COIN is due", Elections.due(3), x -> x.share(1), NONE);
        Refusals.refused("13: a COIN is due, of nobody", Elections.due(0), x -> x.share(1), NONE);
        Run second = Elections.accepted(3);
        Elections.placeAll(second, 3, 1, 1);
        second.shadow();
        Refusals.refused("13: a COIN is due, of the second round", second, x -> x.share(1), NONE);
        second.coin(0);
        Due.same("13: behind the COIN", second.share(1), 1);
    }

    /** The first and the last trustee; also of a mix without a round, of a rejected one, and of more than K. */
    private static void shareAtItsEdges() {
        for (Run x : List.of(Elections.mixed(3), Elections.accepted(3), Elections.rejected(3), Elections.mixed(0))) {
            Due.same("13: how many have", x.share(3), 1);
            Due.same("13: how many have", x.share(1), 2);
            Due.same("13: how many have, more than K", x.share(2), 3);
            Due.same("13: SHARES given", x.about(13), 3);
        }
        Run all = Elections.accepted(40);
        Due.same("13: of 40", all.share(3), 1);
        Due.same("13: of the last place", all.given(3, 39), Reckon.pow(all.list(1, 39, 0), 7, 23));
    }

    // ---- promise 14

    private static void tallyOnlyWhenClosed() {
        for (int voters : new int[] {0, 3}) {
            for (Run run : List.of(Elections.setup(voters), Elections.open(voters), Elections.told(voters))) {
                Refusals.refused("14: it isn't CLOSED", run, Run::tally, NONE);
            }
        }
        Refusals.refused("14: it isn't CLOSED", new Run(11, 1, 1, 1), Run::tally, NONE);
    }

    private static Run shareAll(Run x) {
        for (int j = 1; j <= 3; j++) {
            x.share(j);
        }
        return x;
    }

    /** Whichever it was: the first, one between or the last round, of the first or the last mix. */
    private static void tallyNotIfSomeRoundWasRejected() {
        Refusals.refused("14: the only round was rejected", shareAll(Elections.rejected(3)), Run::tally, NONE);
        for (int wrong = 0; wrong < 4; wrong++) {
            for (int coin = 0; coin < 2; coin++) {
                Run x = Elections.closed(3);
                for (int round = 0; round < 4; round++) {
                    if (round % 2 == 0) {
                        Elections.mixOn(x, 3, 1, 3);
                    }
                    if (round == wrong) {
                        x.forge(2, 2, 3);
                    }
                    Due.same("14: accepted or not", Elections.roundOn(x, 3, 2, 5, coin), round == wrong ? 0 : 1);
                }
                Due.same("14: rejected rounds", x.about(12), 1);
                Refusals.refused("14: round " + wrong + " was rejected", shareAll(x), Run::tally, NONE);
            }
        }
    }

    /** Whichever it is: the only one, the first, one between or the last. */
    private static void tallyNotIfSomeMixHasNoRound() {
        Refusals.refused("14: the only mix has no round", shareAll(Elections.mixed(3)), Run::tally, NONE);
        Refusals.refused("14: the only mix has no round, of nobody", shareAll(Elections.mixed(0)), Run::tally, NONE);
        for (int without = 1; without <= 4; without++) {
            Run x = Elections.closed(3);
            for (int m = 1; m <= 4; m++) {
                Elections.mixOn(x, 3, m, m);
                for (int round = 0; round < 2 && m != without; round++) {
                    Due.same("14: accepted", Elections.roundOn(x, 3, 1, 9, round), 1);
                }
            }
            Refusals.refused("14: mix " + without + " has no round", shareAll(x), Run::tally, NONE);
        }
        Run x = Elections.closed(3);
        for (int m = 1; m <= 4; m++) {
            Elections.mixOn(x, 3, m, m);
            Elections.roundOn(x, 3, 1, 9, m % 2);
        }
        Due.same("14: each of 4 mixes has a round", shareAll(x).tally(), 3);
    }

    private static void tallyNotOfFewerThanK() {
        Refusals.refused("14: no SHARE", Elections.accepted(3), Run::tally, NONE);
        Refusals.refused("14: K - 1 SHARES", Elections.shared(3), Run::tally, NONE);
        Refusals.refused("14: no mix, no SHARE", Elections.closed(3), Run::tally, NONE);
        Refusals.refused("14: a COIN is due, no SHARE", Elections.due(3), Run::tally, NONE);
        Refusals.refused("14: no SHARE, of nobody", Elections.accepted(0), Run::tally, NONE);
        Refusals.refused("14: K - 1 SHARES, of nobody", Elections.shared(0), Run::tally, NONE);
    }

    private static void tallyOfKAndMore() {
        Run enough = Elections.enough(3);
        Due.same("14: of K", enough.tally(), 3);
        Due.same("14: TOLD", enough.about(7), 3);
        Due.same("14: of T", shareAll(Elections.accepted(3)).tally(), 3);
        Due.same("14: of nobody's ballots", Elections.enough(0).tally(), 0);
        Run all = Elections.enough(40);
        Due.same("14: of 40", all.tally(), 40);
        Due.same("14: 20 for 0", all.count(0), 20);
        Due.same("14: 20 for 1", all.count(1), 20);
        Due.same("14: none for nobody", all.count(2), 0);
    }

    // ---- promise 15

    private static void countOnlyWhenTold() {
        for (int voters : new int[] {0, 3}) {
            for (Run run : List.of(Elections.setup(voters), Elections.open(voters), Elections.closed(voters),
                    Elections.mixed(voters), Elections.due(voters), Elections.accepted(voters), Elections.enough(voters))) {
                for (int c = 0; c <= 2; c++) {
                    int candidate = c;
                    Refusals.refused("15: it isn't TOLD", run, x -> x.count(candidate), NONE);
                }
            }
        }
    }

    private static void countOfOthers() {
        for (int c : new int[] {MIN, -2, -1, 3, 4, 10, 11, MAX}) {
            Refusals.refused("15: for others: " + c, Elections.told(3), x -> x.count(c), NONE);
        }
        Run most = new Run(47, 10, 1, 1);
        most.key();
        most.close();
        most.mix();
        most.shadow();
        most.coin(0);
        most.share(1);
        most.tally();
        Due.same("15: the last of 10", most.count(9), 0);
        Due.same("15: nobody behind 10", most.count(10), 0);
        Due.same("15: others behind 10", most.count(11), NONE);
        Due.same("15: others behind 10", most.count(12), NONE);
    }

    private static void countAtItsEdges() {
        Run x = Elections.open(3);
        x.castPair(1, 1, 1);
        x.close();
        Elections.mixOn(x, 3, 1, 4);
        Elections.roundOn(x, 3, 1, 4, 1);
        Due.same("15: for candidates", shareAll(x).tally(), 2);
        Due.same("15: for the first", x.count(0), 2);
        Due.same("15: for the last", x.count(1), 0);
        Due.same("15: of c C: for nobody", x.count(2), 1);
    }
}
