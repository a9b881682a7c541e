import java.util.ArrayList;
import java.util.List;
import java.util.TreeSet;

/** The boundary cases of 'Terms' I (NUMBERS) and of promise 1, a test for each sentence that names one. */
public final class NumbersBoundaryTests {
    private static final int MIN = Elections.MIN;
    private static final int MAX = Elections.MAX;
    private static final int GREATEST = 999959;

    public static void main(String[] args) {
        numberBelow11IsTakenTo11();
        numberAbove999959IsTakenToIt();
        safePrimeIsTakenItself();
        leastSafePrimeNotBelow();
        primeThatIsNotSafeIsPassed();
        candidatesInto1To10();
        candidatesAreQMinus2AtMost();
        trusteesInto1To5();
        trusteesAreQMinus1AtMost();
        thresholdInto1ToT();
        whatIsTakenHoldsInTheCalls();
        newObjectIsEmpty();
        groupIsThePowersOf4();
        groupOfTheGreatestPrime();
        exponentsAre0ToQMinus1();
        marksOfTheFirstAndTheLastCandidate();
        ballotsAtTheEdgesOfTheExponents();
        madeAnewGoesRoundP();
        polynomialIs1AtFirst();
        polynomialGoesRoundQ();
        digestOfNothingIs0();
        digestGoesRound();
        Due.end("NumbersBoundaryTests");
    }

    private static void taken(String sentence, int what, int due, int prime, int c, int t, int k) {
        String made = ": new(" + prime + ", " + c + ", " + t + ", " + k + ") about(" + what + ")";
        Due.same(sentence + made, new Run(prime, c, t, k).about(what), due);
    }

    private static void takenNumber(String sentence, int number, int due) {
        taken(sentence, 0, due, number, 1, 1, 1);
        taken(sentence, 1, (due - 1) / 2, number, 1, 1, 1);
    }

    /** Also 5 and 7, safe primes themselves. */
    private static void numberBelow11IsTakenTo11() {
        for (int number : new int[] {MIN, MIN + 1, -999959, -11, -1, 0, 1, 2, 4, 5, 6, 7, 8, 9, 10, 11}) {
            takenNumber("1: below 11 is 11", number, 11);
        }
    }

    private static void numberAbove999959IsTakenToIt() {
        for (int number : new int[] {MAX, MAX - 1, 2000000, 1000000, 999983, 999961, 999960, GREATEST, 999958}) {
            takenNumber("1: above 999959 is 999959", number, GREATEST);
        }
    }

    private static List<Integer> safePrimes() {
        List<Integer> all = new ArrayList<>();
        for (int n = 11; n <= GREATEST; n++) {
            if (Reckon.isSafePrime(n)) {
                all.add(n);
            }
        }
        return all;
    }

    private static void safePrimeIsTakenItself() {
        Due.yes("1: 999959 (a safe prime itself)", Reckon.isSafePrime(GREATEST));
        for (int p : safePrimes()) {
            takenNumber("1: a safe prime itself", p, p);
        }
    }

    /** The number behind each safe prime is where the next one begins, the number ahead of it where it ends. */
    private static void leastSafePrimeNotBelow() {
        List<Integer> all = safePrimes();
        for (int i = 0; i + 1 < all.size(); i++) {
            int next = all.get(i + 1);
            takenNumber("1: the least not below", all.get(i) + 1, next);
            takenNumber("1: the least not below", next - 1, next);
            takenNumber("1: the least not below", (all.get(i) + next) / 2 + 1, next);
        }
    }

    private static void primeThatIsNotSafeIsPassed() {
        // 13, 17 and 19 are primes with a half that is none; of 15 and 27 the half is a prime, they aren't.
        for (int number : new int[] {12, 13, 15, 17, 19, 22, 23}) {
            takenNumber("1: a safe prime", number, 23);
        }
        for (int number : new int[] {24, 27, 29, 31, 35, 37, 39, 41, 43, 46, 47}) {
            takenNumber("1: a safe prime", number, 47);
        }
        // Each number between two safe primes that are far apart.
        for (int number = 264; number <= 347; number++) {
            takenNumber("1: a safe prime", number, 347);
        }
    }

    private static void candidatesInto1To10() {
        int[] numbers = {MIN, -1, 0, 1, 2, 9, 10, 11, 12, MAX};
        int[] due = {1, 1, 1, 1, 2, 9, 10, 10, 10, 10};
        for (int i = 0; i < numbers.length; i++) {
            taken("1: C into 1 .. 10", 3, due[i], 47, numbers[i], 1, 1);
            taken("1: C into 1 .. 10", 3, due[i], MAX, numbers[i], 5, 5);
        }
    }

    private static void candidatesAreQMinus2AtMost() {
        // Q is 5, then 11, then 23, where Q - 2 lies above 10.
        int[] numbers = {MIN, 0, 1, 2, 3, 4, 5, 9, 10, 11, MAX};
        int[] at11 = {1, 1, 1, 2, 3, 3, 3, 3, 3, 3, 3};
        int[] at23 = {1, 1, 1, 2, 3, 4, 5, 9, 9, 9, 9};
        int[] at47 = {1, 1, 1, 2, 3, 4, 5, 9, 10, 10, 10};
        for (int i = 0; i < numbers.length; i++) {
            taken("1: C is Q - 2 at most", 3, at11[i], 11, numbers[i], 1, 1);
            taken("1: C is Q - 2 at most", 3, at23[i], 23, numbers[i], 1, 1);
            taken("1: C is Q - 2 at most", 3, at47[i], 47, numbers[i], 1, 1);
        }
    }

    private static void trusteesInto1To5() {
        int[] numbers = {MIN, -1, 0, 1, 2, 4, 5, 6, 7, MAX};
        int[] due = {1, 1, 1, 1, 2, 4, 5, 5, 5, 5};
        for (int i = 0; i < numbers.length; i++) {
            taken("1: T into 1 .. 5", 4, due[i], 23, 1, numbers[i], 1);
            taken("1: T into 1 .. 5", 4, due[i], MAX, 1, numbers[i], MAX);
        }
    }

    private static void trusteesAreQMinus1AtMost() {
        int[] numbers = {MIN, 0, 1, 3, 4, 5, 6, MAX};
        int[] at11 = {1, 1, 1, 3, 4, 4, 4, 4};
        for (int i = 0; i < numbers.length; i++) {
            taken("1: T is Q - 1 at most", 4, at11[i], 11, 1, numbers[i], 1);
        }
    }

    /** Into the T that was taken, not the one that was told. */
    private static void thresholdInto1ToT() {
        int[] numbers = {MIN, -1, 0, 1, 2, 3, 4, 5, 6, MAX};
        int[] of1 = {1, 1, 1, 1, 1, 1, 1, 1, 1, 1};
        int[] of3 = {1, 1, 1, 1, 2, 3, 3, 3, 3, 3};
        int[] of4 = {1, 1, 1, 1, 2, 3, 4, 4, 4, 4};
        int[] of5 = {1, 1, 1, 1, 2, 3, 4, 5, 5, 5};
        for (int i = 0; i < numbers.length; i++) {
            taken("1: K into 1 .. T", 5, of1[i], 23, 1, 1, numbers[i]);
            taken("1: K into 1 .. T", 5, of1[i], 23, 1, MIN, numbers[i]);
            taken("1: K into 1 .. T", 5, of3[i], 23, 1, 3, numbers[i]);
            taken("1: K into 1 .. T", 5, of4[i], 11, 1, 5, numbers[i]);
            taken("1: K into 1 .. T", 5, of5[i], 23, 1, 5, numbers[i]);
            taken("1: K into 1 .. T", 5, of5[i], 23, 1, MAX, numbers[i]);
        }
    }

    /** C, T and K are not only told: the last candidate, trustee and secret there are, and none behind them. */
    private static void whatIsTakenHoldsInTheCalls() {
        for (int prime : new int[] {11, 23, 47}) {
            int c = prime == 11 ? 3 : prime == 23 ? 9 : 10;
            int t = prime == 11 ? 4 : 5;
            Run x = new Run(prime, MAX, MAX, MAX);
            Due.yes("1: secret K - 1", x.secret(t - 1, 1));
            Due.no("1: no secret K", x.secret(t, 1));
            x.voter();
            x.key();
            Due.yes("1: candidate C - 1", x.cast(0, c - 1, 1) != 0);
            Due.same("1: no candidate C", x.cast(0, c, 1), 0);
            x.close();
            Elections.mixOn(x, 1, 0, 1);
            Elections.roundOn(x, 1, 0, 1, 0);
            Due.same("1: no trustee T + 1", x.share(t + 1), -1);
            for (int j = t; j >= 1; j--) {
                Due.same("1: fewer than K", x.tally(), -1);
                Due.same("1: trustee " + j, x.share(j), t - j + 1);
            }
            Due.same("1: tally of K", x.tally(), 1);
            Due.same("1: for C - 1", x.count(c - 1), 1);
            Due.same("1: for nobody", x.count(c), 0);
            Due.same("1: behind nobody", x.count(c + 1), -1);
        }
    }

    private static void newObjectIsEmpty() {
        Run x = new Run(23, 2, 3, 2);
        int[] due = {23, 11, 0, 2, 3, 2, 0, 0, 0, -1, 0, 0, 0, 0, 0, -1};
        for (int what = 0; what < due.length; what++) {
            Due.same("1: a new object: about(" + what + ")", x.about(what), due[what]);
        }
        Due.same("1: a new object: entry", x.entry(0, 0), 0);
        Due.same("1: a new object: chain", x.chain(0), 0);
    }

    private static TreeSet<Integer> powersOf4(int p) {
        TreeSet<Integer> all = new TreeSet<>();
        for (int e = 0; e < (p - 1) / 2; e++) {
            all.add(Reckon.pow(4, e, p));
        }
        return all;
    }

    /** Each number of -P .. 2 P as a, then as b: of the GROUP are Q of 1 .. P - 1, neither 0 nor P - 1 among them. */
    private static void groupIsThePowersOf4() {
        for (int p : new int[] {11, 23, 47}) {
            TreeSet<Integer> members = powersOf4(p);
            Due.same("I: as many as Q", members.size(), (p - 1) / 2);
            for (int part = 0; part < 2; part++) {
                Run x = new Run(p, 1, 1, 1);
                x.voter();
                x.key();
                for (int n = -p; n <= 2 * p; n++) {
                    long chain = part == 0 ? x.castPair(0, n, 1) : x.castPair(0, 1, n);
                    Due.same("I: " + n + " of the GROUP of " + p, chain != 0 ? 1 : 0, members.contains(n) ? 1 : 0);
                }
                Due.same("I: entries", x.about(8), 1 + members.size());
            }
        }
    }

    private static void groupOfTheGreatestPrime() {
        Run x = new Run(MAX, 1, 1, 1);
        x.voter();
        x.key();
        int[] numbers = {MIN, -4, -1, 0, 1, 2, 3, 4, 5, 6, 7, 999956, 999957, 999958, GREATEST, 999960, 999963, MAX};
        for (int n : numbers) {
            boolean member = n >= 1 && n < GREATEST && Reckon.pow(n, 499979, GREATEST) == 1;
            Due.same("I: a " + n, x.castPair(0, n, 4) != 0 ? 1 : 0, member ? 1 : 0);
            Due.same("I: b " + n, x.castPair(0, 4, n) != 0 ? 1 : 0, member ? 1 : 0);
        }
        // Squares of great numbers, whose products go far beyond an int.
        for (int n : new int[] {999957, 777777, 500000, 46341}) {
            int square = Reckon.times(n, n, GREATEST);
            Due.yes("I: a square", x.castPair(0, square, square) != 0);
            Due.same("I: less a square", x.castPair(0, GREATEST - square, square), 0);
            Due.same("I: less a square", x.castPair(0, square, GREATEST - square), 0);
        }
    }

    /** In each call that takes one. */
    private static void exponentsAre0ToQMinus1() {
        for (int p : new int[] {11, 23, GREATEST}) {
            int q = (p - 1) / 2;
            for (int r : new int[] {MIN, -q, -1, 0, 1, q - 1, q, q + 1, 2 * q, p - 1, p, MAX}) {
                boolean isOne = r >= 0 && r < q;
                Run x = new Run(p, 1, 2, 2);
                Due.same("I: secret " + r, x.secret(1, r) ? 1 : 0, isOne ? 1 : 0);
                x.voter();
                x.key();
                Due.same("I: cast " + r, x.cast(0, 0, r) != 0 ? 1 : 0, isOne ? 1 : 0);
                x.castPair(0, 1, 1);
                x.close();
                Due.same("I: place " + r, x.place(0, 0, r) ? 1 : 0, isOne ? 1 : 0);
            }
        }
    }

    /** With the exponent 0 a ballot bears its mark openly: G to the power of 1 for the first, of C for the last. */
    private static void marksOfTheFirstAndTheLastCandidate() {
        int[][] marks = {{11, 3, 4, 9}, {23, 9, 4, Reckon.pow(4, 9, 23)}, {GREATEST, 10, 4, 1048576 - GREATEST}};
        for (int[] row : marks) {
            Run x = new Run(row[0], row[1], 1, 1);
            x.voter();
            x.key();
            x.cast(0, 0, 0);
            Due.same("I: the first mark", x.entry(1, 3), row[2]);
            x.cast(0, row[1] - 1, 0);
            Due.same("I: the last mark", x.entry(2, 3), row[3]);
        }
    }

    private static void ballotsAtTheEdgesOfTheExponents() {
        for (int p : new int[] {11, 23, GREATEST}) {
            int q = (p - 1) / 2;
            Run x = new Run(p, 2, 1, 1);
            x.secret(0, q - 1);
            x.voter();
            int key = x.key();
            Due.same("I: H = G^f0", key, Reckon.pow(4, q - 1, p));
            int entry = 1;
            for (int r : new int[] {0, 1, q - 1}) {
                x.cast(0, 1, r);
                Due.same("I: a with " + r, x.entry(entry, 2), Reckon.ballot(16 % p, key, r, 0, p));
                Due.same("I: b with " + r, x.entry(entry, 3), Reckon.ballot(16 % p, key, r, 1, p));
                entry++;
            }
        }
    }

    /** With 0 it stays, with Q - 1 behind 1 it is what it was, and products beyond an int are reckoned rightly. */
    private static void madeAnewGoesRoundP() {
        Run x = new Run(GREATEST, 10, 1, 1);
        x.secret(0, 499978);
        x.voter();
        int key = x.key();
        x.cast(0, 9, 499978);
        x.close();
        int exponent = 499978;
        for (int r : new int[] {0, 1, 499978, 499978}) {
            Elections.mixOn(x, 1, 0, r);
            exponent = (exponent + r) % 499979;
            int m = x.about(10);
            Due.same("I: a anew", x.list(m, 0, 0), Reckon.ballot(Reckon.pow(4, 10, GREATEST), key, exponent, 0, GREATEST));
            Due.same("I: b anew", x.list(m, 0, 1), Reckon.ballot(Reckon.pow(4, 10, GREATEST), key, exponent, 1, GREATEST));
        }
    }

    /** (at first 1, 0, 0, ..): the KEY is G, and each trustee gives a itself. */
    private static void polynomialIs1AtFirst() {
        Run x = new Run(23, 2, 5, 5);
        x.voter();
        Due.same("I: H is G at first", x.key(), 4);
        x.cast(0, 1, 6);
        x.close();
        Elections.mixOn(x, 1, 0, 0);
        for (int j = 1; j <= 5; j++) {
            x.share(j);
            Due.same("I: f(" + j + ") is 1", x.given(j, 0), Reckon.pow(4, 6, 23));
        }
    }

    /** f(x) is taken modulo Q: once it is 0, once each of its numbers is the greatest. */
    private static void polynomialGoesRoundQ() {
        Run x = new Run(11, 1, 4, 2);
        x.secret(0, 1);
        x.secret(1, 4);
        sharesAre(x, 11, new int[] {0, 4, 3, 2});
        Run y = new Run(GREATEST, 1, 5, 5);
        int[] due = new int[5];
        for (int i = 0; i < 5; i++) {
            y.secret(i, 499978);
        }
        for (int j = 1; j <= 5; j++) {
            long sum = 1 + j + (long) j * j + (long) j * j * j + (long) j * j * j * j;
            due[j - 1] = (int) (499979 - sum % 499979);
        }
        sharesAre(y, GREATEST, due);
    }

    private static void sharesAre(Run x, int p, int[] due) {
        x.voter();
        x.key();
        x.castPair(0, 4, 4);
        x.close();
        Elections.mixOn(x, 1, 0, 0);
        for (int j = 1; j <= due.length; j++) {
            x.share(j);
            Due.same("I: f(" + j + ")", x.given(j, 0), Reckon.pow(4, due[j - 1], p));
        }
    }

    /** d is 0: of no ballots, of no gifts. */
    private static void digestOfNothingIs0() {
        Run x = Elections.told(0);
        // CLOSE, MIX, SHADOW and both SHARES tell of no ballot.
        for (int i : new int[] {1, 2, 3, 5, 6}) {
            Due.same("I: digest of nothing, entry " + i, x.entry(i, 3), 0);
        }
    }

    /** (64 bits, it goes round): the numbers below are worked out by hand from the document's words. */
    private static void digestGoesRound() {
        Run x = new Run(11, 1, 1, 1);
        x.voter();
        x.key();
        x.castPair(0, 1, 4);
        x.close();
        // (1099511628211 xor 4) * 1099511628211 is 1208925820575602337573365, less 65536 rounds of 2^64.
        Due.same("I: it goes round", x.entry(2, 3), 960973162867189L);
        Due.same("I: it goes round below 0", x.chain(0), -8464441320390574546L);
        Due.same("I: chain 0", x.chain(0), Reckon.digest(-3750763034362895579L, 1, 4, 1, 1));
        Due.same("I: chain 1", x.chain(1), Reckon.digest(x.chain(0), 2, 0, 1, 4));
        Due.same("I: chain 2", x.chain(2), Reckon.digest(x.chain(1), 3, 1, 0, 960973162867189L));
    }
}
