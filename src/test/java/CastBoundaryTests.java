import java.util.List;
import java.util.function.Consumer;
import java.util.function.ToLongFunction;

/** The boundary cases of promises 2 to 7, a test for each reason to refuse, with a look at the state behind it. */
public final class CastBoundaryTests {
    private static final int NONE = Elections.NONE;
    private static final int MIN = Elections.MIN;
    private static final int MAX = Elections.MAX;

    public static void main(String[] args) {
        secretOnlyInSetup();
        secretOfNoSuchI();
        secretOfNoExponent();
        secretF0IsNot0();
        secretAtItsEdges();
        keyOnlyInSetup();
        keyAtItsEdges();
        voterUpTo40();
        voterNotWhenClosed();
        castOnlyWhenOpen();
        castOfNoSuchVoter();
        castOfNoSuchCandidate();
        castOfNoExponent();
        castAtItsEdges();
        castPairOnlyWhenOpen();
        castPairOfNoSuchVoter();
        castPairNotOfTheGroup();
        castPairAtItsEdges();
        castUpTo500Entries();
        castsRefusedBehind500Entries();
        closeOnlyWhenOpen();
        closeAtItsEdges();
        Due.end("CastBoundaryTests");
    }

    private static List<Run> closedOrTold() {
        return List.of(Elections.closed(3), Elections.staged(3), Elections.mixed(3), Elections.due(3),
            Elections.accepted(3), Elections.rejected(3), Elections.shared(3), Elections.enough(3), Elections.told(3));
    }

    // ---- promise 2

    private static void secretOnlyInSetup() {
        Refusals.refused("2: not in SETUP: OPEN", Elections.open(3), x -> x.secret(0, 1));
        Refusals.refused("2: not in SETUP: OPEN", Elections.open(3), x -> x.secret(1, 0));
        for (Run run : closedOrTold()) {
            Refusals.refused("2: not in SETUP", run, x -> x.secret(0, 1));
            Refusals.refused("2: not in SETUP", run, x -> x.secret(1, 0));
        }
    }

    private static void secretOfNoSuchI() {
        for (int i : new int[] {MIN, -2, -1, 2, 3, 4, 5, 6, MAX}) {
            Refusals.refused("2: no such i: " + i, Elections.setup(3), x -> x.secret(i, 1));
        }
        for (int k = 1; k <= 5; k++) {
            Run x = new Run(23, 2, 5, k);
            Due.yes("2: i is K - 1", x.secret(k - 1, 1));
            Due.no("2: i is K", x.secret(k, 1));
        }
    }

    private static void secretOfNoExponent() {
        for (int v : new int[] {MIN, -11, -1, 11, 12, 22, 23, MAX}) {
            Refusals.refused("2: no such EXPONENT for f0: " + v, Elections.setup(3), x -> x.secret(0, v));
            Refusals.refused("2: no such EXPONENT for f1: " + v, Elections.setup(3), x -> x.secret(1, v));
        }
    }

    private static void secretF0IsNot0() {
        Refusals.refused("2: f0 not 0", Elections.setup(3), x -> x.secret(0, 0));
        Run x = Elections.setup(3);
        Due.yes("2: f1 may be 0", x.secret(1, 0));
        x.key();
        x.castPair(0, 4, 4);
        x.close();
        Elections.mixOn(x, 1, 0, 0);
        x.share(2);
        Due.same("2: f1 is 0: f(2) is f0", x.given(2, 0), Reckon.pow(4, 3, 23));
    }

    /** The last told counts; the least and the greatest. */
    private static void secretAtItsEdges() {
        for (int v : new int[] {1, 10}) {
            Run x = Elections.setup(3);
            Due.yes("2: f0 " + v, x.secret(0, v));
            Due.yes("2: f1 " + v, x.secret(1, v));
            Due.same("2: H is G^f0", x.key(), Reckon.pow(4, v, 23));
            x.castPair(0, 4, 4);
            x.close();
            Elections.mixOn(x, 1, 0, 0);
            x.share(3);
            Due.same("2: f(3)", x.given(3, 0), Reckon.pow(4, (v + 3 * v) % 11, 23));
        }
    }

    // ---- promises 3 and 4

    private static void keyOnlyInSetup() {
        Refusals.refused("3: not in SETUP: OPEN", Elections.open(3), Run::key, NONE);
        for (Run run : closedOrTold()) {
            Refusals.refused("3: not in SETUP", run, Run::key, NONE);
        }
    }

    private static void keyAtItsEdges() {
        int[][] due = {{11, 1, 4}, {11, 4, 3}, {23, 10, 6}, {999959, 1, 4}, {999959, 499978, 249990}};
        for (int[] row : due) {
            Run x = new Run(row[0], 1, 1, 1);
            Due.same("3: H in SETUP", x.about(2), 0);
            x.secret(0, row[1]);
            Due.same("3: H", x.key(), row[2]);
            Due.same("3: H is told", x.about(2), row[2]);
            Due.same("3: OPEN", x.about(7), 1);
            Due.same("3: its entry", x.entry(0, 1), row[2]);
            Due.same("3: no other entry", x.about(8), 1);
        }
    }

    private static void voterUpTo40() {
        Run setup = new Run(23, 2, 3, 2);
        Run open = new Run(23, 2, 3, 2);
        open.key();
        for (int v = 0; v < 40; v++) {
            Due.same("4: its number in SETUP", setup.voter(), v);
            Due.same("4: its number when OPEN", open.voter(), v);
        }
        Due.same("4: voters", setup.copy().about(6), 40);
        Refusals.refused("4: there are 40, SETUP", setup, Run::voter, NONE);
        Refusals.refused("4: there are 40, OPEN", open, Run::voter, NONE);
        Due.yes("4: the 40th casts", open.cast(39, 1, 1) != 0);
        Due.same("4: there is no 41st", open.cast(40, 1, 1), 0);
        Run both = Elections.setup(39);
        both.key();
        Due.same("4: the 40th", both.voter(), 39);
        Due.same("4: there are 40", both.voter(), NONE);
    }

    private static void voterNotWhenClosed() {
        for (Run run : closedOrTold()) {
            Refusals.refused("4: the election is CLOSED or TOLD", run, Run::voter, NONE);
        }
        Refusals.refused("4: CLOSED, no voter at all", Elections.closed(0), Run::voter, NONE);
        Refusals.refused("4: TOLD, no voter at all", Elections.told(0), Run::voter, NONE);
    }

    // ---- promises 5 and 6

    private static void refusedUnlessOpen(String sentence, ToLongFunction<Run> call) {
        Refusals.refused(sentence + ": SETUP", Elections.setup(3), call, 0);
        for (Run run : closedOrTold()) {
            Refusals.refused(sentence, run, call, 0);
        }
    }

    private static void castOnlyWhenOpen() {
        refusedUnlessOpen("5: it isn't OPEN", x -> x.cast(0, 1, 9));
    }

    private static void castOfNoSuchVoter() {
        for (int v : new int[] {MIN, -2, -1, 3, 4, 39, 40, MAX}) {
            Refusals.refused("5: no such voter: " + v, Elections.open(3), x -> x.cast(v, 1, 9), 0);
        }
        Refusals.refused("5: no voter at all", Elections.open(0), x -> x.cast(0, 1, 9), 0);
    }

    private static void castOfNoSuchCandidate() {
        for (int c : new int[] {MIN, -2, -1, 2, 3, 10, MAX}) {
            Refusals.refused("5: no such candidate: " + c, Elections.open(3), x -> x.cast(0, c, 9), 0);
        }
    }

    private static void castOfNoExponent() {
        for (int r : new int[] {MIN, -11, -1, 11, 12, 22, 23, MAX}) {
            Refusals.refused("5: no such EXPONENT: " + r, Elections.open(3), x -> x.cast(0, 1, r), 0);
        }
    }

    /** The first and last voter, candidate and EXPONENT; the answer is the CHAIN of the entry. */
    private static void castAtItsEdges() {
        for (int v : new int[] {0, 2}) {
            for (int c : new int[] {0, 1}) {
                for (int r : new int[] {0, 10}) {
                    Run x = Elections.open(3);
                    long ahead = x.chain(3);
                    int a = Reckon.ballot(Reckon.pow(4, c + 1, 23), 18, r, 0, 23);
                    int b = Reckon.ballot(Reckon.pow(4, c + 1, 23), 18, r, 1, 23);
                    Due.same("5: the CHAIN of its entry", x.cast(v, c, r), Reckon.digest(ahead, 2, v, a, b));
                    Due.same("5: entries", x.about(8), 5);
                    x.close();
                    Due.same("5: it is the voter's last", x.list(0, v, 0), a);
                    Due.same("5: it is the voter's last", x.list(0, v, 1), b);
                    Due.same("5: no ballot more", x.about(9), 3);
                }
            }
        }
    }

    private static void castPairOnlyWhenOpen() {
        refusedUnlessOpen("6: it isn't OPEN", x -> x.castPair(0, 2, 3));
    }

    private static void castPairOfNoSuchVoter() {
        for (int v : new int[] {MIN, -2, -1, 3, 4, 39, 40, MAX}) {
            Refusals.refused("6: no such voter: " + v, Elections.open(3), x -> x.castPair(v, 2, 3), 0);
        }
        Refusals.refused("6: no voter at all", Elections.open(0), x -> x.castPair(0, 2, 3), 0);
    }

    private static void castPairNotOfTheGroup() {
        // 5 is no square; 22 is P - 1; 24 and 27 would be 1 and 4.
        for (int n : new int[] {MIN, -22, -19, -1, 0, 5, 22, 23, 24, 27, MAX}) {
            Refusals.refused("6: a isn't of the GROUP: " + n, Elections.open(3), x -> x.castPair(0, n, 3), 0);
            Refusals.refused("6: b isn't of the GROUP: " + n, Elections.open(3), x -> x.castPair(0, 2, n), 0);
            Refusals.refused("6: both aren't of the GROUP: " + n, Elections.open(3), x -> x.castPair(0, n, n), 0);
        }
    }

    private static void castPairAtItsEdges() {
        // 1 is the least of the GROUP, 18 the greatest.
        for (int[] pair : new int[][] {{1, 1}, {1, 18}, {18, 1}, {18, 18}}) {
            for (int v : new int[] {0, 2}) {
                Run x = Elections.open(3);
                long due = Reckon.digest(x.chain(3), 2, v, pair[0], pair[1]);
                Due.same("6: the CHAIN of its entry", x.castPair(v, pair[0], pair[1]), due);
                x.close();
                Due.same("6: it is the voter's last", x.list(0, v, 0), pair[0]);
                Due.same("6: it is the voter's last", x.list(0, v, 1), pair[1]);
            }
        }
    }

    /** With so few calls ahead of the casts that the document still tells of what comes behind them. */
    private static Run withEntries(int entries) {
        Run x = new Run(23, 2, 1, 1);
        x.voter();
        x.key();
        for (int n = 1; n < entries; n++) {
            x.cast(0, n % 2, n % 11);
        }
        return x;
    }

    private static void castUpTo500Entries() {
        Run cast = withEntries(499);
        long ahead = cast.chain(498);
        Due.same("5: the 500th entry", cast.cast(0, 0, 0), Reckon.digest(ahead, 2, 0, 1, 4));
        Due.same("5: there are 500", cast.about(8), 500);
        Due.same("5: no 501st", cast.cast(0, 0, 0), 0);
        Run pair = withEntries(499);
        ahead = pair.chain(498);
        Due.same("6: the 500th entry", pair.castPair(0, 2, 3), Reckon.digest(ahead, 2, 0, 2, 3));
        Due.same("6: there are 500", pair.about(8), 500);
        Due.same("6: no 501st", pair.castPair(0, 2, 3), 0);
        Due.same("6: the last of the voter", pair.close(), 1);
        Due.same("6: the last of the voter", pair.list(0, 0, 0), 2);
        Due.same("7: CLOSE is the 501st entry", pair.entry(500, 0), 3);
        Due.same("7: there are 501", pair.about(8), 501);
    }

    private static void castsRefusedBehind500Entries() {
        List<Consumer<Run>> waysOn = List.of(CastBoundaryTests::shortWayToTheEnd);
        Run x = withEntries(500);
        Refusals.refused("5: there are 500 entries", x, y -> y.cast(0, 0, 1), 0, waysOn);
        Refusals.refused("6: there are 500 entries", x, y -> y.castPair(0, 2, 3), 0, waysOn);
        shortWayToTheEnd(x);
        Due.same("5: TOLD behind 500 entries", x.entry(505, 0), 8);
        Due.same("5: the last ballot counts", x.count(1), 1);
    }

    private static void shortWayToTheEnd(Run x) {
        x.close();
        Elections.mixOn(x, 1, 0, 1);
        Elections.roundOn(x, 1, 0, 1, 1);
        x.share(1);
        x.tally();
    }

    // ---- promise 7

    private static void closeOnlyWhenOpen() {
        Refusals.refused("7: it isn't OPEN: SETUP", Elections.setup(3), Run::close, NONE);
        for (Run run : closedOrTold()) {
            Refusals.refused("7: it isn't OPEN", run, Run::close, NONE);
        }
    }

    /** How many ballots LIST 0 has: those of nobody, of one voter, of all 40, of voters that cast again. */
    private static void closeAtItsEdges() {
        for (int voters : new int[] {0, 1, 39, 40}) {
            Run x = Elections.open(voters);
            Due.same("7: how many", x.close(), voters);
            Due.same("7: CLOSED", x.about(7), 2);
            Due.same("7: its entry", x.entry(voters + 1, 0), 3);
            Due.same("7: its entry tells how many", x.entry(voters + 1, 1), voters);
        }
        Run none = Elections.setup(40);
        none.key();
        Due.same("7: voters, but no ballot", none.close(), 0);
        Run again = Elections.open(2);
        again.cast(1, 0, 0);
        again.cast(1, 0, 0);
        Due.same("7: who casts again counts once", again.close(), 2);
    }
}
