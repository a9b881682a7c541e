/**
 * Elections that the tests start from, each a step further than the one ahead of it: P 23, Q 11, two candidates, three
 * trustees of whom two are enough, f(x) = 3 + 5 x modulo 11, so that the KEY is 4^3 = 18 and the SHARES are 8, 2, 7.
 */
final class Elections {
    static final int NONE = MixElection.NONE;
    static final int MIN = Integer.MIN_VALUE;
    static final int MAX = Integer.MAX_VALUE;
    static final int VOTERS = 3;
    static final int P = 23;
    static final int Q = 11;
    static final int H = 18;

    private Elections() {
    }

    static Run setup(int voters) {
        Run x = new Run(23, 2, 3, 2);
        x.secret(0, 3);
        x.secret(1, 5);
        for (int v = 0; v < voters; v++) {
            x.voter();
        }
        return x;
    }

    /** OPEN, with a ballot of each voter: for candidate v % 2, with the exponent v + 1. */
    static Run open(int voters) {
        Run x = setup(voters);
        x.key();
        for (int v = 0; v < voters; v++) {
            x.cast(v, v % 2, (v + 1) % Q);
        }
        return x;
    }

    static Run closed(int voters) {
        Run x = open(voters);
        x.close();
        return x;
    }

    /** CLOSED, with a whole STAGING and a FORGED pair in it. */
    static Run staged(int voters) {
        Run x = closed(voters);
        placeAll(x, voters, 1, 7);
        x.forge(0, 2, 3);
        return x;
    }

    static Run mixed(int voters) {
        Run x = closed(voters);
        mixOn(x, voters, 1, 4);
        return x;
    }

    /** A COIN is due. */
    static Run due(int voters) {
        Run x = mixed(voters);
        placeAll(x, voters, 2, 7);
        x.shadow();
        return x;
    }

    static Run accepted(int voters) {
        Run x = due(voters);
        x.coin(0);
        return x;
    }

    static Run rejected(int voters) {
        Run x = mixed(voters);
        x.forge(0, 2, 3);
        roundOn(x, voters, 2, 7, 0);
        return x;
    }

    /** One SHARE fewer than are enough. */
    static Run shared(int voters) {
        Run x = accepted(voters);
        x.share(3);
        return x;
    }

    static Run enough(int voters) {
        Run x = shared(voters);
        x.share(1);
        return x;
    }

    static Run told(int voters) {
        Run x = enough(voters);
        x.tally();
        return x;
    }

    /** Place i goes to i + step, with the exponent r. */
    static void placeAll(Run x, int ballots, int step, int r) {
        for (int i = 0; i < ballots; i++) {
            x.place(i, (i + step) % ballots, r);
        }
    }

    static int mixOn(Run x, int ballots, int step, int r) {
        placeAll(x, ballots, step, r);
        return x.mix();
    }

    /** Of a round: 1 accepted, 0 rejected. */
    static int roundOn(Run x, int ballots, int step, int r, int coin) {
        placeAll(x, ballots, step, r);
        x.shadow();
        return x.coin(coin);
    }
}
