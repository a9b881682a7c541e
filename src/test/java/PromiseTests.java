/** Each promise of the document by itself: ordinary inputs, the edges it names, wrong inputs. */
public final class PromiseTests {
    private static final int NONE = MixElection.NONE;
    private static final int MIN = Integer.MIN_VALUE;
    private static final int MAX = Integer.MAX_VALUE;

    public static void main(String[] args) {
        newObject();
        secret();
        key();
        voter();
        cast();
        castPair();
        close();
        place();
        forge();
        mix();
        shadow();
        coin();
        share();
        tally();
        count();
        about();
        list();
        shadowOf();
        shown();
        given();
        entry();
        chain();
        Due.end("PromiseTests");
    }

    // ---- what the tests share

    private static void entryIs(Run x, int i, long kind, long a, long b, long c) {
        Due.same("entry " + i + " kind", x.entry(i, 0), kind);
        Due.same("entry " + i + " x", x.entry(i, 1), a);
        Due.same("entry " + i + " y", x.entry(i, 2), b);
        Due.same("entry " + i + " z", x.entry(i, 3), c);
        Due.same("entry " + i + " chain", x.chain(i), Reckon.digest(x.chain(i - 1), kind, a, b, c));
    }

    /** P 23, Q 11, KEY 4^3 = 18, two candidates, three trustees of whom two are needed, f(x) = 3 + 5 x. */
    private static Run open(int voters) {
        Run x = new Run(23, 2, 3, 2);
        Due.yes("secret f0", x.secret(0, 3));
        Due.yes("secret f1", x.secret(1, 5));
        for (int v = 0; v < voters; v++) {
            x.voter();
        }
        Due.same("key", x.key(), 18);
        return x;
    }

    /** CLOSED, with a ballot of each voter: for candidate v % 2, with the exponent v + 1. */
    private static Run closed(int voters) {
        Run x = open(voters);
        for (int v = 0; v < voters; v++) {
            x.cast(v, v % 2, (v + 1) % 11);
        }
        Due.same("close", x.close(), voters);
        return x;
    }

    /** Places each i at i + step, with the exponent r. */
    private static void stage(Run x, int step, int r) {
        int n = x.about(9);
        for (int i = 0; i < n; i++) {
            Due.yes("place", x.place(i, (i + step) % n, r));
        }
    }

    private static void mixWith(Run x, int step, int r) {
        stage(x, step, r);
        Due.yes("a mix", x.mix() > 0);
    }

    private static int roundWith(Run x, int step, int r, int coin) {
        stage(x, step, r);
        Due.yes("a shadow", x.shadow() > 0);
        return x.coin(coin);
    }

    private static long digestOfList(Run x, int m) {
        long d = 0;
        for (int i = 0; i < x.about(9); i++) {
            d = Reckon.digest(d, x.list(m, i, 0), x.list(m, i, 1));
        }
        return d;
    }

    private static long digestOfShadow(Run x) {
        long d = 0;
        for (int i = 0; i < x.about(9); i++) {
            d = Reckon.digest(d, x.shadowOf(i, 0), x.shadowOf(i, 1));
        }
        return d;
    }

    // ---- promise 1

    private static void made(int prime, int c, int t, int k, int... want) {
        Run x = new Run(prime, c, t, k);
        String text = "new(" + prime + ", " + c + ", " + t + ", " + k + ") about ";
        Due.same(text + "P", x.about(0), want[0]);
        Due.same(text + "Q", x.about(1), (want[0] - 1) / 2);
        Due.same(text + "C", x.about(3), want[1]);
        Due.same(text + "T", x.about(4), want[2]);
        Due.same(text + "K", x.about(5), want[3]);
    }

    private static void newObject() {
        made(11, 1, 1, 1, 11, 1, 1, 1);
        made(MIN, MIN, MIN, MIN, 11, 1, 1, 1);
        made(-1, MAX, MAX, MAX, 11, 3, 4, 4);
        made(12, MAX, MAX, MAX, 23, 9, 5, 5);
        made(23, 10, 5, 0, 23, 9, 5, 1);
        made(24, 10, 6, 3, 47, 10, 5, 3);
        made(48, 11, 3, 4, 59, 10, 3, 3);
        made(MAX, 0, 2, -4, 999959, 1, 2, 1);
        made(999959, 5, 5, 5, 999959, 5, 5, 5);
        made(999960, 5, 5, 2, 999959, 5, 5, 2);
    }

    // ---- promises 2 to 7

    private static void secret() {
        Run x = new Run(11, 3, 4, 3);
        Due.yes("f0 1", x.secret(0, 1));
        Due.yes("f0 4", x.secret(0, 4));
        Due.no("f0 0", x.secret(0, 0));
        Due.no("f0 5", x.secret(0, 5));
        Due.no("f0 -1", x.secret(0, -1));
        Due.no("f0 min", x.secret(0, MIN));
        Due.no("f0 max", x.secret(0, MAX));
        Due.yes("f1 0", x.secret(1, 0));
        Due.yes("f2 4", x.secret(2, 4));
        Due.no("f2 5", x.secret(2, 5));
        Due.no("f3", x.secret(3, 1));
        Due.no("f-1", x.secret(-1, 1));
        Due.no("f min", x.secret(MIN, 1));
        Due.no("f max", x.secret(MAX, 1));
        Due.same("the refused ones changed nothing", x.key(), Reckon.pow(4, 4, 11));
        Due.no("no longer in SETUP", x.secret(0, 1));
        Due.same("the key stays", x.about(2), Reckon.pow(4, 4, 11));
    }

    private static void key() {
        Run x = new Run(47, 3, 4, 3);
        Due.same("H in SETUP", x.about(2), 0);
        Due.same("f0 is 1 at first", x.key(), 4);
        Due.same("stage", x.about(7), 1);
        Due.same("H", x.about(2), 4);
        entryIs(x, 0, 1, 4, 4, 3);
        Due.same("again", x.key(), NONE);
        Due.same("no other entry", x.about(8), 1);
        x.close();
        Due.same("when CLOSED", x.key(), NONE);
        Run y = new Run(999959, 1, 1, 1);
        y.secret(0, 499978);
        Due.same("a great key", y.key(), Reckon.pow(4, 499978, 999959));
    }

    private static void voter() {
        Run x = new Run(11, 1, 1, 1);
        for (int v = 0; v < 20; v++) {
            Due.same("voter in SETUP", x.voter(), v);
        }
        x.key();
        for (int v = 20; v < 40; v++) {
            Due.same("voter when OPEN", x.voter(), v);
        }
        Due.same("the 41st", x.voter(), NONE);
        Due.same("voters", x.about(6), 40);
        Run y = closed(1);
        Due.same("when CLOSED", y.voter(), NONE);
        mixWith(y, 0, 0);
        roundWith(y, 0, 0, 0);
        y.share(1);
        y.share(2);
        y.tally();
        Due.same("when TOLD", y.voter(), NONE);
        Due.same("voters stay", y.about(6), 1);
    }

    private static void cast() {
        Run x = new Run(23, 2, 3, 2);
        x.voter();
        x.voter();
        Due.same("in SETUP", x.cast(0, 0, 1), 0);
        x.secret(0, 3);
        x.key();
        long ahead = x.chain(0);
        int a = Reckon.pow(4, 10, 23);
        int b = Reckon.pow(4, 2, 23) * Reckon.pow(18, 10, 23) % 23;
        Due.same("cast", x.cast(1, 1, 10), Reckon.digest(ahead, 2, 1, a, b));
        entryIs(x, 1, 2, 1, a, b);
        Due.same("exponent 0", x.cast(0, 0, 0), Reckon.digest(x.chain(1), 2, 0, 1, 4));
        for (int wrong : new int[] {-1, MIN, MAX}) {
            Due.same("no such voter", x.cast(wrong, 0, 1), 0);
            Due.same("no such candidate", x.cast(0, wrong, 1), 0);
            Due.same("no such exponent", x.cast(0, 0, wrong), 0);
        }
        Due.same("voter 2", x.cast(2, 0, 1), 0);
        Due.same("candidate 2", x.cast(0, 2, 1), 0);
        Due.same("exponent 11", x.cast(0, 0, 11), 0);
        Due.same("the refused ones added nothing", x.about(8), 3);
        x.close();
        Due.same("when CLOSED", x.cast(0, 0, 1), 0);
        Due.same("entries", x.about(8), 4);
    }

    private static void castPair() {
        Run x = new Run(23, 2, 3, 2);
        x.voter();
        Due.same("in SETUP", x.castPair(0, 4, 4), 0);
        x.key();
        int at = 1;
        for (int a = -2; a < 26; a++) {
            boolean inGroup = a >= 1 && a <= 22 && Reckon.pow(a, 11, 23) == 1;
            long want = inGroup ? Reckon.digest(x.chain(at - 1), 2, 0, a, 4) : 0;
            Due.same("castPair(0, " + a + ", 4)", x.castPair(0, a, 4), want);
            at += inGroup ? 1 : 0;
            want = inGroup ? Reckon.digest(x.chain(at - 1), 2, 0, 4, a) : 0;
            Due.same("castPair(0, 4, " + a + ")", x.castPair(0, 4, a), want);
            at += inGroup ? 1 : 0;
        }
        Due.same("both members of each", at, 1 + 2 * 11);
        Due.same("entries", x.about(8), at);
        for (int wrong : new int[] {-1, 1, MIN, MAX}) {
            Due.same("no such voter", x.castPair(wrong, 4, 4), 0);
        }
        Due.same("a min", x.castPair(0, MIN, 4), 0);
        Due.same("b max", x.castPair(0, 4, MAX), 0);
        x.close();
        Due.same("when CLOSED", x.castPair(0, 4, 4), 0);
        Run y = new Run(999959, 2, 3, 2);
        y.voter();
        y.key();
        Due.same("P - 1 is none", y.castPair(0, 999958, 1), 0);
        Due.yes("a great square", y.castPair(0, Reckon.pow(999957, 2, 999959), Reckon.pow(777777, 2, 999959)) != 0);
    }

    private static void close() {
        Run x = new Run(23, 2, 3, 2);
        Due.same("in SETUP", x.close(), NONE);
        for (int v = 0; v < 5; v++) {
            x.voter();
        }
        x.key();
        x.castPair(3, 4, 2);
        x.castPair(1, 8, 9);
        x.castPair(3, 6, 12);
        x.castPair(0, 1, 1);
        Due.same("close", x.close(), 3);
        Due.same("again", x.close(), NONE);
        Due.same("stage", x.about(7), 2);
        int[] want = {1, 1, 8, 9, 6, 12};
        for (int i = 0; i < 6; i++) {
            Due.same("by voters, the last of each", x.list(0, i / 2, i % 2), want[i]);
        }
        entryIs(x, 5, 3, 3, 0, Reckon.digest(0, 1, 1, 8, 9, 6, 12));
        Run y = open(0);
        Due.same("no ballot", y.close(), 0);
        entryIs(y, 1, 3, 0, 0, 0);
        Run z = closed(40);
        Due.same("40 ballots", z.about(9), 40);
        Due.same("the last place", z.list(0, 39, 0), Reckon.pow(4, 40 % 11, 23));
    }

    // ---- promises 8 to 14

    private static void place() {
        Run x = open(3);
        for (int v = 0; v < 3; v++) {
            x.cast(v, 0, v);
        }
        Due.no("when OPEN", x.place(0, 0, 0));
        x.close();
        Due.yes("place", x.place(0, 2, 10));
        Due.yes("in place of it", x.place(0, 1, 3));
        Due.yes("place", x.place(1, 2, 0));
        Due.yes("place", x.place(2, 0, 0));
        for (int wrong : new int[] {-1, 3, MIN, MAX}) {
            Due.no("no such place", x.place(wrong, 0, 0));
            Due.no("no such place to go to", x.place(0, wrong, 0));
        }
        for (int wrong : new int[] {-1, 11, MIN, MAX}) {
            Due.no("no such exponent", x.place(0, 0, wrong));
        }
        Due.same("whole", x.about(15), 1);
        x.mix();
        Due.same("the last told of place 0", x.list(1, 1, 0), Reckon.pow(4, 3, 23));
        Due.same("its b", x.list(1, 1, 1), 4 * Reckon.pow(18, 3, 23) % 23);
        stage(x, 0, 1);
        x.shadow();
        Due.yes("while a coin is due", x.place(0, 0, 1));
        x.coin(0);
        x.share(1);
        x.share(2);
        Due.yes("behind shares", x.place(0, 0, 1));
        Due.same("tally", x.tally(), 3);
        Due.no("when TOLD", x.place(0, 0, 1));
        Due.no("no ballots, no places", closed(0).place(0, 0, 0));
        Due.no("in SETUP", new Run(23, 2, 3, 2).place(0, 0, 0));
    }

    private static void forge() {
        Run x = open(2);
        x.cast(0, 0, 1);
        x.cast(1, 1, 1);
        Due.no("when OPEN", x.forge(0, 4, 4));
        x.close();
        stage(x, 1, 2);
        Due.yes("forge", x.forge(1, 4, 4));
        Due.yes("in place of it", x.forge(1, 9, 6));
        for (int wrong : new int[] {-1, 2, MIN, MAX}) {
            Due.no("no such place", x.forge(wrong, 4, 4));
        }
        for (int wrong : new int[] {0, -1, 5, 22, 23, 27, MIN, MAX}) {
            Due.no("a not of the group", x.forge(1, wrong, 4));
            Due.no("b not of the group", x.forge(1, 4, wrong));
        }
        Due.same("forging makes nothing whole or less so", x.about(15), 1);
        x.mix();
        Due.same("forged a", x.list(1, 1, 0), 9);
        Due.same("forged b", x.list(1, 1, 1), 6);
        Due.same("the other place", x.list(1, 0, 0), Reckon.pow(4, 3, 23));
        mixWith(x, 0, 0);
        Due.same("forged once only", x.list(2, 0, 0), Reckon.pow(4, 3, 23));
        x.forge(0, 1, 1);
        stage(x, 0, 0);
        x.shadow();
        Due.same("forged shadow", x.shadowOf(0, 0), 1);
        Due.same("forged shadow b", x.shadowOf(0, 1), 1);
        Due.same("rejected", x.coin(0), 0);
        stage(x, 0, 0);
        x.shadow();
        Due.same("forged once only", x.shadowOf(0, 0), Reckon.pow(4, 3, 23));
        Due.no("in SETUP", new Run(23, 2, 3, 2).forge(0, 4, 4));
        Due.no("no place", closed(0).forge(0, 4, 4));
        Run told = told(2);
        Due.no("when TOLD", told.forge(0, 4, 4));
        forgedAlikeIsAccepted();
    }

    /** What is forged counts by what stands there, not by its having been forged. */
    private static void forgedAlikeIsAccepted() {
        Run x = closed(1);
        x.forge(0, x.list(0, 0, 0) * 4 % 23, x.list(0, 0, 1) * 18 % 23);
        mixWith(x, 0, 1);
        Due.same("as if made anew", roundWith(x, 0, 5, 1), 1);
    }

    private static Run told(int voters) {
        Run x = closed(voters);
        mixWith(x, 1, 3);
        roundWith(x, 1, 7, 0);
        x.share(1);
        x.share(3);
        Due.same("tally", x.tally(), voters);
        return x;
    }

    private static void mix() {
        Run x = open(3);
        Due.same("when OPEN", x.mix(), NONE);
        for (int v = 0; v < 3; v++) {
            x.cast(v, 0, v);
        }
        x.close();
        Due.same("an empty staging", x.mix(), NONE);
        x.place(0, 1, 1);
        x.place(1, 2, 2);
        Due.same("a place goes nowhere", x.mix(), NONE);
        x.place(2, 2, 10);
        Due.same("two go to the same", x.mix(), NONE);
        Due.same("entries stay", x.about(8), 5);
        x.place(2, 0, 10);
        Due.same("mix", x.mix(), 1);
        for (int i = 0; i < 3; i++) {
            int r = new int[] {1, 2, 10}[i];
            Due.same("a made anew", x.list(1, (i + 1) % 3, 0), x.list(0, i, 0) * Reckon.pow(4, r, 23) % 23);
            Due.same("b made anew", x.list(1, (i + 1) % 3, 1), x.list(0, i, 1) * Reckon.pow(18, r, 23) % 23);
        }
        entryIs(x, 5, 4, 1, 0, digestOfList(x, 1));
        Due.same("the staging is empty behind it", x.about(15), 0);
        for (int m = 2; m <= 4; m++) {
            stage(x, m, m);
            Due.same("mix", x.mix(), m);
            entryIs(x, 4 + m, 4, m, 0, digestOfList(x, m));
            Due.same("from the latest list", x.list(m, m % 3, 0), x.list(m - 1, 0, 0) * Reckon.pow(4, m, 23) % 23);
        }
        stage(x, 0, 0);
        Due.same("a fifth", x.mix(), NONE);
        Due.same("mixes", x.about(10), 4);
        Due.same("the staging stays", x.about(15), 1);
        noMixWhenDueOrShared();
    }

    private static void noMixWhenDueOrShared() {
        Run x = closed(2);
        mixWith(x, 0, 1);
        stage(x, 0, 1);
        x.shadow();
        stage(x, 0, 1);
        Due.same("mix while a coin is due", x.mix(), NONE);
        Due.same("shadow while a coin is due", x.shadow(), NONE);
        x.coin(1);
        Due.same("mix behind the coin", x.mix(), 2);
        stage(x, 0, 1);
        Due.same("shadow", x.shadow(), 1);
        x.coin(1);
        x.share(2);
        stage(x, 0, 1);
        Due.same("mix behind a share", x.mix(), NONE);
        Due.same("shadow behind a share", x.shadow(), NONE);
        Due.same("mixes", x.about(10), 2);
        Due.same("rounds", x.about(11), 1);
        Due.same("mix when TOLD", told(0).mix(), NONE);
        Due.same("shadow when TOLD", told(0).shadow(), NONE);
        Due.same("mix in SETUP", new Run(11, 1, 1, 1).mix(), NONE);
        Due.same("shadow in SETUP", new Run(11, 1, 1, 1).shadow(), NONE);
    }

    private static void shadow() {
        Run x = closed(3);
        stage(x, 1, 1);
        Due.same("no mix", x.shadow(), NONE);
        Due.same("the staging stays", x.about(15), 1);
        x.mix();
        Due.same("an empty staging", x.shadow(), NONE);
        for (int round = 1; round <= 8; round++) {
            stage(x, round, round);
            Due.same("shadow", x.shadow(), round);
            for (int i = 0; i < 3; i++) {
                int to = (i + round) % 3;
                Due.same("a", x.shadowOf(to, 0), x.list(0, i, 0) * Reckon.pow(4, round, 23) % 23);
                Due.same("b", x.shadowOf(to, 1), x.list(0, i, 1) * Reckon.pow(18, round, 23) % 23);
            }
            entryIs(x, x.about(8) - 1, 5, round, 1, digestOfShadow(x));
            Due.same("the staging is empty behind it", x.about(15), 0);
            Due.same("coin", x.coin(round % 2), 1);
        }
        stage(x, 0, 0);
        Due.same("a ninth", x.shadow(), NONE);
        Due.same("rounds", x.about(11), 8);
        Due.same("but a mix", x.mix(), 2);
        Due.same("rounds of the new mix", x.about(11), 0);
        stage(x, 2, 2);
        Due.same("its first", x.shadow(), 1);
        Due.same("from list 1", x.shadowOf(2, 0), x.list(1, 0, 0) * Reckon.pow(4, 2, 23) % 23);
        entryIs(x, x.about(8) - 1, 5, 1, 2, digestOfShadow(x));
    }

    private static void coin() {
        Run x = closed(3);
        Due.same("no shadow", x.coin(0), NONE);
        mixWith(x, 1, 9);
        Due.same("a mix is none", x.coin(0), NONE);
        stage(x, 2, 4);
        x.shadow();
        for (int wrong : new int[] {-1, 2, MIN, MAX}) {
            Due.same("no coin", x.coin(wrong), NONE);
        }
        Due.same("still due", x.about(14), 1);
        Due.same("coin 1", x.coin(1), 1);
        entryIs(x, x.about(8) - 1, 6, 1, 1, 1);
        Due.same("no longer due", x.about(14), 0);
        Due.same("once each", x.coin(1), NONE);
        Due.same("coin 0", roundWith(x, 0, 0, 0), 1);
        entryIs(x, x.about(8) - 1, 6, 2, 0, 1);
        coinsOnForgedShadow();
        coinsOnForgedMix();
        Due.same("in SETUP", new Run(11, 1, 1, 1).coin(0), NONE);
        Due.same("when TOLD", told(1).coin(0), NONE);
    }

    private static void coinsOnForgedShadow() {
        for (int part = 0; part < 2; part++) {
            for (int c = 0; c < 2; c++) {
                Run x = closed(3);
                mixWith(x, 1, 9);
                // One part of the pair stays right.
                int a = x.list(0, 2, 0) * Reckon.pow(4, 5, 23) % 23;
                int b = x.list(0, 2, 1) * Reckon.pow(18, 5, 23) % 23;
                x.forge(2, part == 0 ? a * 4 % 23 : a, part == 1 ? b * 4 % 23 : b);
                Due.same("a forged shadow", roundWith(x, 0, 5, c), 0);
                Due.same("rejected", x.about(12), 1);
                entryIs(x, x.about(8) - 1, 6, 1, c, 0);
            }
        }
    }

    private static void coinsOnForgedMix() {
        Run x = closed(3);
        x.forge(1, 4, 4);
        mixWith(x, 1, 9);
        Due.same("coin 0 does not see it", roundWith(x, 2, 5, 0), 1);
        Due.same("rejected", x.about(12), 0);
        Due.same("coin 1 does", roundWith(x, 2, 5, 1), 0);
        Due.same("each time", roundWith(x, 0, 0, 1), 0);
        Due.same("rejected", x.about(12), 2);
        mixWith(x, 0, 0);
        Due.same("the next mix is right", roundWith(x, 0, 0, 1), 1);
        Due.same("rejected stay", x.about(12), 2);
    }

    private static void share() {
        Run x = open(2);
        Due.same("when OPEN", x.share(1), NONE);
        x.cast(0, 0, 1);
        x.cast(1, 1, 2);
        x.close();
        Due.same("no mix", x.share(1), NONE);
        mixWith(x, 1, 1);
        stage(x, 0, 0);
        x.shadow();
        Due.same("a coin is due", x.share(1), NONE);
        x.coin(0);
        for (int wrong : new int[] {0, -1, 4, MIN, MAX}) {
            Due.same("no such trustee", x.share(wrong), NONE);
        }
        Due.same("share 3", x.share(3), 1);
        // f(3) = 3 + 5 * 3 = 18, modulo 11 it is 7.
        int first = Reckon.pow(x.list(1, 0, 0), 7, 23);
        int second = Reckon.pow(x.list(1, 1, 0), 7, 23);
        entryIs(x, x.about(8) - 1, 7, 3, 0, Reckon.digest(0, first, second));
        Due.same("it has", x.share(3), NONE);
        Due.same("share 1", x.share(1), 2);
        Due.same("share 2", x.share(2), 3);
        Due.same("shares", x.about(13), 3);
        Due.same("without a round", shareWithoutRound(), 1);
        Due.same("when TOLD", told(1).share(2), NONE);
    }

    private static int shareWithoutRound() {
        Run x = closed(1);
        mixWith(x, 0, 0);
        return x.share(2);
    }

    private static void tally() {
        Run x = closed(5);
        Due.same("no mix", x.tally(), NONE);
        mixWith(x, 1, 1);
        roundWith(x, 3, 8, 1);
        Due.same("no share", x.tally(), NONE);
        x.share(2);
        Due.same("fewer than K", x.tally(), NONE);
        x.share(3);
        Due.same("stage", x.about(7), 2);
        Due.same("tally", x.tally(), 5);
        Due.same("stage", x.about(7), 3);
        entryIs(x, x.about(8) - 1, 8, 5, 0, Reckon.digest(0, 3, 2));
        Due.same("again", x.tally(), NONE);
        Due.same("in SETUP", new Run(11, 1, 1, 1).tally(), NONE);
        Due.same("when OPEN", open(1).tally(), NONE);
        noTallyWithoutRounds();
        noTallyWhenRejected();
        ballotsForNobody();
    }

    private static void noTallyWithoutRounds() {
        for (int without = 1; without <= 3; without++) {
            Run x = closed(2);
            for (int m = 1; m <= 3; m++) {
                mixWith(x, 1, m);
                if (m != without) {
                    roundWith(x, 1, m, m % 2);
                }
            }
            x.share(1);
            x.share(2);
            Due.same("mix " + without + " has no round", x.tally(), NONE);
            Due.same("stage", x.about(7), 2);
        }
    }

    private static void noTallyWhenRejected() {
        Run x = closed(2);
        mixWith(x, 1, 1);
        x.forge(0, 1, 1);
        Due.same("rejected", roundWith(x, 0, 3, 0), 0);
        Due.same("accepted", roundWith(x, 0, 3, 0), 1);
        mixWith(x, 1, 1);
        Due.same("accepted", roundWith(x, 0, 3, 1), 1);
        x.share(1);
        x.share(2);
        Due.same("some round was rejected", x.tally(), NONE);
        Due.same("no entry", x.entry(x.about(8) - 1, 0), 7);
    }

    private static void ballotsForNobody() {
        Run x = open(4);
        x.cast(0, 1, 1);
        // The marks are 4 and 16; 1 and 4^3 are no marks of the two candidates.
        x.castPair(1, 4, 18);
        x.castPair(2, 1, Reckon.pow(4, 3, 23));
        x.castPair(3, 1, 4);
        x.close();
        mixWith(x, 2, 6);
        roundWith(x, 1, 2, 1);
        x.share(1);
        x.share(2);
        Due.same("for candidates", x.tally(), 2);
        Due.same("for 0", x.count(0), 1);
        Due.same("for 1", x.count(1), 1);
        Due.same("for nobody", x.count(2), 2);
        entryIs(x, x.about(8) - 1, 8, 2, 2, Reckon.digest(0, 1, 1));
    }

    // ---- promises 15 to 22

    private static void count() {
        Run x = closed(3);
        Due.same("when CLOSED", x.count(0), NONE);
        Run y = told(3);
        Due.same("for 0", y.count(0), 2);
        Due.same("for 1", y.count(1), 1);
        Due.same("for nobody", y.count(2), 0);
        for (int wrong : new int[] {-1, 3, 11, MIN, MAX}) {
            Due.same("others", y.count(wrong), NONE);
        }
        Due.same("in SETUP", new Run(11, 1, 1, 1).count(0), NONE);
    }

    private static void aboutIs(Run x, int... want) {
        for (int what = 0; what < want.length; what++) {
            Due.same("about(" + what + ")", x.about(what), want[what]);
        }
    }

    private static void about() {
        Run x = new Run(23, 2, 3, 2);
        aboutIs(x, 23, 11, 0, 2, 3, 2, 0, 0, 0, NONE, 0, 0, 0, 0, 0, NONE);
        x.voter();
        x.voter();
        x.voter();
        x.key();
        aboutIs(x, 23, 11, 4, 2, 3, 2, 3, 1, 1, NONE, 0, 0, 0, 0, 0, NONE);
        x.cast(0, 0, 1);
        x.cast(2, 0, 1);
        x.close();
        aboutIs(x, 23, 11, 4, 2, 3, 2, 3, 2, 4, 2, 0, 0, 0, 0, 0, 0);
        stage(x, 1, 1);
        aboutIs(x, 23, 11, 4, 2, 3, 2, 3, 2, 4, 2, 0, 0, 0, 0, 0, 1);
        x.mix();
        stage(x, 1, 1);
        x.shadow();
        aboutIs(x, 23, 11, 4, 2, 3, 2, 3, 2, 6, 2, 1, 1, 0, 0, 1, 0);
        x.coin(1);
        x.share(1);
        x.share(3);
        aboutIs(x, 23, 11, 4, 2, 3, 2, 3, 2, 9, 2, 1, 1, 0, 2, 0, 0);
        x.tally();
        aboutIs(x, 23, 11, 4, 2, 3, 2, 3, 3, 10, 2, 1, 1, 0, 2, 0, NONE);
        for (int wrong : new int[] {-1, 16, MIN, MAX}) {
            Due.same("others", x.about(wrong), NONE);
        }
        Due.same("no ballot: whole", closed(0).about(15), 1);
    }

    private static void list() {
        Run x = open(2);
        x.cast(0, 0, 1);
        Due.same("ahead of close()", x.list(0, 0, 0), NONE);
        x.cast(1, 0, 2);
        x.close();
        Due.same("a", x.list(0, 1, 0), 16);
        Due.same("b", x.list(0, 1, 1), 4 * 18 * 18 % 23);
        Due.same("list 1 is not yet", x.list(1, 0, 0), NONE);
        mixWith(x, 0, 0);
        Due.same("list 1 is now", x.list(1, 1, 0), 16);
        Due.same("list 2 is not yet", x.list(2, 0, 0), NONE);
        for (int wrong : new int[] {-1, 2, 40, 41, MIN, MAX}) {
            Due.same("no such list", x.list(wrong, 0, 0), NONE);
            Due.same("no such place", x.list(0, wrong, 0), NONE);
            Due.same("no such part", x.list(0, 0, wrong), NONE);
        }
        for (int m = 2; m <= 4; m++) {
            mixWith(x, 0, 0);
        }
        Due.same("list 4", x.list(4, 1, 0), 16);
        Due.same("list 5", x.list(5, 0, 0), NONE);
        Due.same("when TOLD", told(1).list(1, 0, 0), Reckon.pow(4, 4, 23));
    }

    private static void shadowOf() {
        Run x = closed(2);
        Due.same("no shadow", x.shadowOf(0, 0), NONE);
        mixWith(x, 0, 0);
        Due.same("a mix is none", x.shadowOf(0, 0), NONE);
        stage(x, 0, 1);
        x.shadow();
        int a = 4 * 4 % 23;
        int b = 4 * Reckon.pow(18, 2, 23) % 23;
        Due.same("a", x.shadowOf(0, 0), a);
        Due.same("b", x.shadowOf(0, 1), b);
        for (int wrong : new int[] {-1, 2, 40, 41, MIN, MAX}) {
            Due.same("no such place", x.shadowOf(wrong, 0), NONE);
            Due.same("no such part", x.shadowOf(0, wrong), NONE);
        }
        x.coin(0);
        Due.same("behind the coin", x.shadowOf(0, 0), a);
        mixWith(x, 1, 1);
        Due.same("still the latest, behind another mix", x.shadowOf(0, 1), b);
    }

    private static void shown() {
        Run x = closed(3);
        Due.same("no coin", x.shown(0, 0), NONE);
        mixWith(x, 1, 4);
        Due.same("no coin", x.shown(0, 0), NONE);
        stage(x, 2, 7);
        x.shadow();
        Due.same("not yet", x.shown(0, 0), NONE);
        Due.same("not yet", x.shown(0, 1), NONE);
        x.coin(0);
        for (int i = 0; i < 3; i++) {
            Due.same("coin 0: where", x.shown(i, 0), (i + 2) % 3);
            Due.same("coin 0: exponent", x.shown(i, 1), 7);
        }
        for (int wrong : new int[] {-1, 3, 40, 41, MIN, MAX}) {
            Due.same("no such place", x.shown(wrong, 0), NONE);
            Due.same("no such what", x.shown(0, wrong), NONE);
        }
        Due.same("no such what", x.shown(0, 2), NONE);
        stage(x, 2, 7);
        Due.same("a staging takes nothing away", x.shown(0, 0), 2);
        x.shadow();
        Due.same("a new shadow shows nothing", x.shown(0, 0), NONE);
        x.coin(1);
        for (int i = 0; i < 3; i++) {
            Due.same("coin 1: where", x.shown((i + 2) % 3, 0), (i + 1) % 3);
            Due.same("coin 1: exponent", x.shown(i, 1), 4 - 7 + 11);
        }
        roundWith(x, 0, 3, 1);
        Due.same("a difference above 0", x.shown(0, 1), 1);
        mixWith(x, 0, 0);
        Due.same("a new mix shows nothing", x.shown(0, 0), NONE);
        Due.same("a new mix shows nothing", x.shown(0, 1), NONE);
        shownWhenRejected();
    }

    private static void shownWhenRejected() {
        Run x = closed(2);
        x.forge(0, 1, 1);
        mixWith(x, 1, 2);
        Due.same("rejected", roundWith(x, 0, 1, 1), 0);
        Due.same("shown all the same", x.shown(0, 0), 1);
        Due.same("shown all the same", x.shown(1, 1), 1);
    }

    private static void given() {
        Run x = closed(2);
        mixWith(x, 1, 4);
        Due.same("gave none", x.given(1, 0), NONE);
        // f(1) = 8, f(2) = 13 or 2, f(3) = 18 or 7.
        int[] f = {0, 8, 2, 7};
        for (int j = 3; j >= 1; j--) {
            Due.same("gave none", x.given(j, 0), NONE);
            x.share(j);
            Due.same("place 0", x.given(j, 0), Reckon.pow(x.list(1, 0, 0), f[j], 23));
            Due.same("place 1", x.given(j, 1), Reckon.pow(x.list(1, 1, 0), f[j], 23));
        }
        for (int wrong : new int[] {-1, 0, 4, 5, 6, MIN, MAX}) {
            Due.same("no such trustee", x.given(wrong, 0), NONE);
        }
        for (int wrong : new int[] {-1, 2, 39, 40, MIN, MAX}) {
            Due.same("no such place", x.given(1, wrong), NONE);
        }
        Due.same("in SETUP", new Run(11, 1, 1, 1).given(1, 0), NONE);
    }

    private static void entry() {
        Run x = new Run(23, 2, 3, 2);
        Due.same("no entry", x.entry(0, 0), 0);
        x.key();
        entryIs(x, 0, 1, 4, 3, 2);
        for (int wrong : new int[] {-1, 1, 599, 600, MIN, MAX}) {
            Due.same("no such entry", x.entry(wrong, 0), 0);
        }
        for (int wrong : new int[] {-1, 4, MIN, MAX}) {
            Due.same("no such number", x.entry(0, wrong), 0);
        }
        Run y = told(2);
        int[] kinds = {1, 2, 2, 3, 4, 5, 6, 7, 7, 8};
        for (int i = 0; i < kinds.length; i++) {
            Due.same("kind of " + i, y.entry(i, 0), kinds[i]);
        }
        Due.same("entries", y.about(8), kinds.length);
    }

    private static void chain() {
        Run x = told(3);
        Due.same("ahead of all", x.chain(NONE), -3750763034362895579L);
        long d = x.chain(NONE);
        for (int i = 0; i < x.about(8); i++) {
            d = Reckon.digest(d, x.entry(i, 0), x.entry(i, 1), x.entry(i, 2), x.entry(i, 3));
            Due.same("chain of " + i, x.chain(i), d);
        }
        for (int wrong : new int[] {-2, x.about(8), 599, 600, MIN, MAX}) {
            Due.same("others", x.chain(wrong), 0);
        }
        Due.same("a new object", new Run(11, 1, 1, 1).chain(0), 0);
        Due.same("a new object", new Run(11, 1, 1, 1).chain(-1), -3750763034362895579L);
    }
}
