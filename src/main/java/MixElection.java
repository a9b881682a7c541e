import java.util.Arrays;

/**
 * An election by a mix-net that all can check: ElGamal ballots modulo a safe prime, a chained board,
 * mixes with rounds of cut and choose, decryption by shares, a tally.
 */
public final class MixElection {
    /** None. */
    public static final int NONE = -1;

    private static final int SETUP = 0;
    private static final int OPEN = 1;
    private static final int CLOSED = 2;
    private static final int TOLD = 3;

    private static final int KEY_ENTRY = 1;
    private static final int CAST_ENTRY = 2;
    private static final int CLOSE_ENTRY = 3;
    private static final int MIX_ENTRY = 4;
    private static final int SHADOW_ENTRY = 5;
    private static final int COIN_ENTRY = 6;
    private static final int SHARE_ENTRY = 7;
    private static final int TALLY_ENTRY = 8;

    private static final int LEAST_PRIME = 11;
    private static final int GREATEST_PRIME = 999959;
    private static final int GENERATOR = 4;
    private static final int MOST_CANDIDATES = 10;
    private static final int MOST_TRUSTEES = 5;
    private static final int MOST_VOTERS = 40;
    private static final int MOST_MIXES = 4;
    private static final int MOST_ROUNDS = 8;
    private static final int MOST_ENTRIES = 600;
    private static final int ENTRIES_OPEN_TO_CASTS = 500;

    private static final long DIGEST_FACTOR = 1099511628211L;
    private static final long CHAIN_AHEAD_OF_ALL = -3750763034362895579L;

    private final Group group;
    private final Trustees trustees;
    private final Board board;
    private final int candidates;
    /** The last ballot by voter; of a voter that cast none NONE. */
    private final Pairs lastBallots;
    private final Pairs[] lists;
    private final Pairs latestShadow;
    private final Staging staging;
    private final Moves mixMoves;
    private final Moves shadowMoves;
    private final Moves shownMoves;
    /** By candidate, and behind the last of them those for nobody. */
    private final int[] counts;
    private int stage;
    private int voters;
    private int ballots;
    private int mixes;
    private int mixesWithRounds;
    /** Of the latest mix. */
    private int rounds;
    private int rejectedRounds;
    private boolean coinIsDue;

    public MixElection(int prime, int candidates, int trustees, int threshold) {
        group = new Group(Numbers.safePrimeFrom(Numbers.within(prime, LEAST_PRIME, GREATEST_PRIME)));
        this.candidates = Numbers.within(candidates, 1, Math.min(MOST_CANDIDATES, group.order() - 2));
        this.trustees = new Trustees(group, trustees, threshold);
        board = new Board();
        lastBallots = new Pairs();
        lists = new Pairs[MOST_MIXES + 1];
        for (int m = 0; m < lists.length; m++) {
            lists[m] = new Pairs();
        }
        latestShadow = new Pairs();
        staging = new Staging();
        mixMoves = new Moves();
        shadowMoves = new Moves();
        shownMoves = new Moves();
        counts = new int[this.candidates + 1];
        stage = SETUP;
    }

    public boolean secret(int i, int v) {
        return stage == SETUP && trustees.setCoefficient(i, v);
    }

    public int key() {
        if (stage != SETUP) {
            return NONE;
        }
        stage = OPEN;
        group.tellKey(trustees.secretKey());
        board.add(KEY_ENTRY, group.publicKey(), trustees.size(), trustees.needed());
        return group.publicKey();
    }

    public int voter() {
        if (stage > OPEN || voters >= MOST_VOTERS) {
            return NONE;
        }
        voters++;
        return voters - 1;
    }

    public long cast(int voter, int candidate, int r) {
        if (!mayCast(voter) || !isCandidate(candidate) || !group.isExponent(r)) {
            return 0;
        }
        return post(voter, group.renewedFirst(1, r), group.renewedSecond(group.markOf(candidate), r));
    }

    public long castPair(int voter, int a, int b) {
        if (!mayCast(voter) || !group.holdsPair(a, b)) {
            return 0;
        }
        return post(voter, a, b);
    }

    public int close() {
        if (stage != OPEN) {
            return NONE;
        }
        stage = CLOSED;
        gatherBallots();
        staging.clear();
        board.add(CLOSE_ENTRY, ballots, 0, lists[0].digest(ballots));
        return ballots;
    }

    public boolean place(int i, int to, int r) {
        if (stage != CLOSED || !isBallot(i) || !isBallot(to) || !group.isExponent(r)) {
            return false;
        }
        staging.move(i, to, r);
        return true;
    }

    public boolean forge(int to, int a, int b) {
        if (stage != CLOSED || !isBallot(to) || !group.holdsPair(a, b)) {
            return false;
        }
        staging.putForged(to, a, b);
        return true;
    }

    public int mix() {
        if (!mayShuffle() || mixes >= MOST_MIXES) {
            return NONE;
        }
        giveOut(listOf(mixes), listOf(mixes + 1), mixMoves);
        mixes++;
        rounds = 0;
        board.add(MIX_ENTRY, mixes, 0, listOf(mixes).digest(ballots));
        return mixes;
    }

    public int shadow() {
        if (!mayShuffle() || mixes < 1 || rounds >= MOST_ROUNDS) {
            return NONE;
        }
        giveOut(listOf(mixes - 1), latestShadow, shadowMoves);
        mixesWithRounds += rounds == 0 ? 1 : 0;
        rounds++;
        coinIsDue = true;
        board.add(SHADOW_ENTRY, rounds, mixes, latestShadow.digest(ballots));
        return rounds;
    }

    public int coin(int c) {
        if (!coinIsDue || (c != 0 && c != 1)) {
            return NONE;
        }
        coinIsDue = false;
        int accepted = (c == 0 ? showShadow() : showMix()) ? 1 : 0;
        rejectedRounds += 1 - accepted;
        board.add(COIN_ENTRY, rounds, c, accepted);
        return accepted;
    }

    public int share(int j) {
        if (stage != CLOSED || mixes < 1 || coinIsDue || !trustees.mayGive(j)) {
            return NONE;
        }
        trustees.give(j, listOf(mixes), ballots);
        board.add(SHARE_ENTRY, j, 0, trustees.digest(j, ballots));
        return trustees.givers();
    }

    public int tally() {
        if (stage != CLOSED || rejectedRounds > 0 || mixesWithRounds < mixes || !trustees.areEnough()) {
            return NONE;
        }
        stage = TOLD;
        countBallots();
        int forNobody = count(candidates);
        board.add(TALLY_ENTRY, ballots - forNobody, forNobody, digestOfCounts());
        return ballots - forNobody;
    }

    public int count(int c) {
        return stage == TOLD && c >= 0 && c < counts.length ? counts[c] : NONE;
    }

    public int about(int what) {
        switch (what) {
            case 0: return group.modulus();
            case 1: return group.order();
            case 2: return group.publicKey();
            case 3: return candidates;
            case 4: return trustees.size();
            case 5: return trustees.needed();
            case 6: return voters;
            case 7: return stage;
            case 8: return board.size();
            case 9: return stage < CLOSED ? NONE : ballots;
            case 10: return mixes;
            case 11: return rounds;
            case 12: return rejectedRounds;
            case 13: return trustees.givers();
            case 14: return coinIsDue ? 1 : 0;
            case 15: return aboutStaging();
            default: return NONE;
        }
    }

    public int list(int m, int i, int part) {
        return m >= 0 && m <= mixes && isBallot(i) ? listOf(m).part(i, part) : NONE;
    }

    public int shadowOf(int i, int part) {
        return isBallot(i) ? latestShadow.part(i, part) : NONE;
    }

    public int shown(int i, int what) {
        if (!isBallot(i)) {
            return NONE;
        }
        switch (what) {
            case 0: return shownMoves.target(i);
            case 1: return shownMoves.exponent(i);
            default: return NONE;
        }
    }

    public int given(int j, int i) {
        return isBallot(i) ? trustees.gift(j, i) : NONE;
    }

    public long entry(int i, int what) {
        return board.field(i, what);
    }

    public long chain(int i) {
        return board.chainOf(i);
    }

    private boolean isCandidate(int c) {
        return c >= 0 && c < candidates;
    }

    /** Ahead of close() there are no ballots in a LIST, so no place is one. */
    private boolean isBallot(int i) {
        return i >= 0 && i < ballots;
    }

    /** No call asks for a LIST that can't be; LIST 0 stands in for it so that no index goes astray. */
    private Pairs listOf(int m) {
        return m >= 0 && m < lists.length ? lists[m] : lists[0];
    }

    private boolean mayCast(int voter) {
        return stage == OPEN && voter >= 0 && voter < voters && board.size() < ENTRIES_OPEN_TO_CASTS;
    }

    private long post(int voter, int a, int b) {
        lastBallots.put(voter, a, b);
        return board.add(CAST_ENTRY, voter, a, b);
    }

    private void gatherBallots() {
        for (int v = 0; v < voters; v++) {
            if (lastBallots.first(v) != NONE) {
                lists[0].put(ballots, lastBallots.first(v), lastBallots.second(v));
                ballots++;
            }
        }
    }

    private int aboutStaging() {
        if (stage != CLOSED) {
            return NONE;
        }
        return staging.isWhole(ballots) ? 1 : 0;
    }

    /** What mix() and shadow() both ask for. */
    private boolean mayShuffle() {
        return stage == CLOSED && !coinIsDue && trustees.givers() == 0 && staging.isWhole(ballots);
    }

    private void giveOut(Pairs before, Pairs after, Moves kept) {
        staging.shuffle(group, before, after, ballots);
        staging.copyMovesTo(kept);
        staging.clear();
        shownMoves.clear();
    }

    /** COIN 0. */
    private boolean showShadow() {
        shownMoves.copyFrom(shadowMoves);
        return shownMoves.lead(group, listOf(mixes - 1), latestShadow, ballots);
    }

    /** COIN 1. */
    private boolean showMix() {
        for (int i = 0; i < ballots; i++) {
            int exponent = Numbers.minus(mixMoves.exponent(i), shadowMoves.exponent(i), group.order());
            shownMoves.set(shadowMoves.target(i), mixMoves.target(i), exponent);
        }
        return shownMoves.lead(group, latestShadow, listOf(mixes), ballots);
    }

    private void countBallots() {
        trustees.weighFirstGivers();
        for (int i = 0; i < ballots; i++) {
            int c = candidateOf(group.divided(listOf(mixes).second(i), trustees.joinedGift(i)));
            if (c >= 0 && c < counts.length) {
                counts[c]++;
            }
        }
    }

    /** Of what is no MARK the number behind the last candidate's, by which those for nobody are counted. */
    private int candidateOf(int opened) {
        for (int c = 0; c < candidates; c++) {
            if (group.markOf(c) == opened) {
                return c;
            }
        }
        return candidates;
    }

    private long digestOfCounts() {
        long digest = 0;
        for (int c = 0; c < candidates; c++) {
            digest = Numbers.digested(digest, count(c));
        }
        return digest;
    }

    /** Arithmetic modulo a number: each division in the class is here, behind a test of its divisor. */
    private static final class Numbers {
        private Numbers() {
        }

        static int within(int x, int least, int most) {
            return Math.max(least, Math.min(most, x));
        }

        /** The least safe prime not below a number of LEAST_PRIME .. GREATEST_PRIME. */
        static int safePrimeFrom(int least) {
            // A safe prime above 7 is 11 modulo 12: else 2 or 3 divides it or its half.
            for (int p = least + 11 - least % 12; p < GREATEST_PRIME; p += 12) {
                if (isOddPrime(p / 2) && isOddPrime(p)) {
                    return p;
                }
            }
            return GREATEST_PRIME;
        }

        /** Of an odd number above 1. */
        private static boolean isOddPrime(int n) {
            for (int d = 3; d <= n / d; d += 2) {
                if (n % d == 0) {
                    return false;
                }
            }
            return true;
        }

        static int times(int a, int b, int modulus) {
            return modulus > 0 ? (int) ((long) a * b % modulus) : 0;
        }

        static int plus(int a, int b, int modulus) {
            return modulus > 0 ? (a + b) % modulus : 0;
        }

        /** Of two numbers of 0 .. modulus - 1. */
        static int minus(int a, int b, int modulus) {
            return a >= b ? a - b : a - b + modulus;
        }

        static int power(int base, int exponent, int modulus) {
            int result = 1;
            int square = base;
            for (int e = exponent; e > 0; e >>= 1) {
                if ((e & 1) == 1) {
                    result = times(result, square, modulus);
                }
                square = times(square, square, modulus);
            }
            return result;
        }

        /** Modulo a prime, by Fermat's little theorem. */
        static int inverse(int a, int prime) {
            return power(a, prime - 2, prime);
        }

        static long digested(long digest, long x) {
            return (digest ^ x) * DIGEST_FACTOR;
        }
    }

    /** The powers of G modulo P, and the KEY by which ballots are made in them. */
    private static final class Group {
        private final int prime;
        private final int half;
        private int told;

        Group(int prime) {
            this.prime = prime;
            half = (prime - 1) / 2;
        }

        int modulus() {
            return prime;
        }

        int order() {
            return half;
        }

        /** 0 till it is told. */
        int publicKey() {
            return told;
        }

        void tellKey(int secretKey) {
            told = raised(GENERATOR, secretKey);
        }

        boolean isExponent(int r) {
            return r >= 0 && r < half;
        }

        boolean holdsPair(int a, int b) {
            return holds(a) && holds(b);
        }

        private boolean holds(int a) {
            return a >= 1 && a < prime && raised(a, half) == 1;
        }

        int raised(int a, int exponent) {
            return Numbers.power(a, exponent, prime);
        }

        int multiplied(int a, int b) {
            return Numbers.times(a, b, prime);
        }

        int divided(int a, int b) {
            return multiplied(a, Numbers.inverse(b, prime));
        }

        int markOf(int candidate) {
            return raised(GENERATOR, candidate + 1);
        }

        int renewedFirst(int a, int r) {
            return multiplied(a, raised(GENERATOR, r));
        }

        int renewedSecond(int b, int r) {
            return multiplied(b, raised(told, r));
        }
    }

    /** A row of ballots; NONE where there is none. */
    private static final class Pairs {
        private final int[] firsts;
        private final int[] seconds;

        Pairs() {
            firsts = new int[MOST_VOTERS];
            seconds = new int[MOST_VOTERS];
            clear();
        }

        void clear() {
            Arrays.fill(firsts, NONE);
            Arrays.fill(seconds, NONE);
        }

        void put(int i, int a, int b) {
            if (i >= 0 && i < MOST_VOTERS) {
                firsts[i] = a;
                seconds[i] = b;
            }
        }

        int first(int i) {
            return i >= 0 && i < MOST_VOTERS ? firsts[i] : NONE;
        }

        int second(int i) {
            return i >= 0 && i < MOST_VOTERS ? seconds[i] : NONE;
        }

        int part(int i, int part) {
            switch (part) {
                case 0: return first(i);
                case 1: return second(i);
                default: return NONE;
            }
        }

        long digest(int length) {
            long digest = 0;
            for (int i = 0; i < length; i++) {
                digest = Numbers.digested(digest, first(i));
                digest = Numbers.digested(digest, second(i));
            }
            return digest;
        }
    }

    /** Where each place goes, and with which EXPONENT it is made anew; NONE where nothing was told. */
    private static final class Moves {
        private final int[] targets;
        private final int[] exponents;

        Moves() {
            targets = new int[MOST_VOTERS];
            exponents = new int[MOST_VOTERS];
            clear();
        }

        void clear() {
            Arrays.fill(targets, NONE);
            Arrays.fill(exponents, NONE);
        }

        void set(int i, int target, int exponent) {
            if (i >= 0 && i < MOST_VOTERS) {
                targets[i] = target;
                exponents[i] = exponent;
            }
        }

        int target(int i) {
            return i >= 0 && i < MOST_VOTERS ? targets[i] : NONE;
        }

        int exponent(int i) {
            return i >= 0 && i < MOST_VOTERS ? exponents[i] : NONE;
        }

        void copyFrom(Moves other) {
            for (int i = 0; i < MOST_VOTERS; i++) {
                set(i, other.target(i), other.exponent(i));
            }
        }

        boolean isWhole(int length) {
            // A bit for each target: MOST_VOTERS of them fit into a long.
            long taken = 0;
            for (int i = 0; i < length; i++) {
                long bit = target(i) == NONE ? 0 : 1L << target(i);
                if (bit == 0 || (taken & bit) != 0) {
                    return false;
                }
                taken |= bit;
            }
            return true;
        }

        /** Whether each place of a row, made anew, is what stands where it goes. */
        boolean lead(Group group, Pairs before, Pairs after, int length) {
            for (int i = 0; i < length; i++) {
                int r = exponent(i);
                int to = target(i);
                if (group.renewedFirst(before.first(i), r) != after.first(to)
                        || group.renewedSecond(before.second(i), r) != after.second(to)) {
                    return false;
                }
            }
            return true;
        }
    }

    /** What the next mix or SHADOW is to do. */
    private static final class Staging {
        private final Moves moves;
        private final Pairs forged;

        Staging() {
            moves = new Moves();
            forged = new Pairs();
        }

        void clear() {
            moves.clear();
            forged.clear();
        }

        void move(int i, int to, int r) {
            moves.set(i, to, r);
        }

        void putForged(int to, int a, int b) {
            forged.put(to, a, b);
        }

        boolean isWhole(int length) {
            return moves.isWhole(length);
        }

        void copyMovesTo(Moves kept) {
            kept.copyFrom(moves);
        }

        void shuffle(Group group, Pairs before, Pairs after, int length) {
            for (int i = 0; i < length; i++) {
                int r = moves.exponent(i);
                int to = moves.target(i);
                if (forged.first(to) != NONE) {
                    after.put(to, forged.first(to), forged.second(to));
                } else {
                    after.put(to, group.renewedFirst(before.first(i), r), group.renewedSecond(before.second(i), r));
                }
            }
        }
    }

    /** The holders of the secret key: the polynomial behind their SHARES, and what they gave. */
    private static final class Trustees {
        private final Group group;
        private final int size;
        private final int threshold;
        private final int[] coefficients;
        private final boolean[] hasGiven;
        /** By trustee, then by place. */
        private final int[][] gifts;
        /** Of the trustees whose SHARES the TALLY uses; 0 of all others. */
        private final int[] weights;
        private int givers;

        Trustees(Group group, int size, int threshold) {
            this.group = group;
            this.size = Numbers.within(size, 1, Math.min(MOST_TRUSTEES, group.order() - 1));
            this.threshold = Numbers.within(threshold, 1, this.size);
            coefficients = new int[this.threshold];
            coefficients[0] = 1;
            hasGiven = new boolean[this.size + 1];
            gifts = new int[this.size + 1][MOST_VOTERS];
            weights = new int[this.size + 1];
        }

        int size() {
            return size;
        }

        int needed() {
            return threshold;
        }

        int givers() {
            return givers;
        }

        boolean areEnough() {
            return givers >= threshold;
        }

        int secretKey() {
            return coefficients[0];
        }

        boolean setCoefficient(int i, int v) {
            if (i < 0 || i >= threshold || !group.isExponent(v) || (i == 0 && v == 0)) {
                return false;
            }
            coefficients[i] = v;
            return true;
        }

        private boolean isTrustee(int j) {
            return j >= 1 && j <= size;
        }

        boolean mayGive(int j) {
            return isTrustee(j) && !hasGiven[j];
        }

        private boolean gave(int j) {
            return isTrustee(j) && hasGiven[j];
        }

        void give(int j, Pairs ballots, int length) {
            if (!mayGive(j) || length > MOST_VOTERS) {
                return;
            }
            int exponent = shareOf(j);
            for (int i = 0; i < length; i++) {
                gifts[j][i] = group.raised(ballots.first(i), exponent);
            }
            hasGiven[j] = true;
            givers++;
        }

        private int shareOf(int j) {
            int value = 0;
            for (int i = threshold - 1; i >= 0; i--) {
                value = Numbers.plus(Numbers.times(value, j, group.order()), coefficients[i], group.order());
            }
            return value;
        }

        int gift(int j, int i) {
            return gave(j) && i >= 0 && i < MOST_VOTERS ? gifts[j][i] : NONE;
        }

        long digest(int j, int length) {
            long digest = 0;
            for (int i = 0; i < length; i++) {
                digest = Numbers.digested(digest, gift(j, i));
            }
            return digest;
        }

        /** Lagrange's weights at 0, for the first trustees that gave a SHARE, as many as are needed. */
        void weighFirstGivers() {
            int last = lastNeededGiver();
            for (int j = 1; j <= size; j++) {
                weights[j] = j <= last && gave(j) ? weightOf(j, last) : 0;
            }
        }

        private int lastNeededGiver() {
            int found = 0;
            for (int j = 1; j <= size; j++) {
                found += gave(j) ? 1 : 0;
                if (found == threshold) {
                    return j;
                }
            }
            return size;
        }

        private int weightOf(int j, int last) {
            int order = group.order();
            int above = 1;
            int below = 1;
            for (int k = 1; k <= last; k++) {
                if (k != j && gave(k)) {
                    above = Numbers.times(above, k, order);
                    below = Numbers.times(below, Numbers.minus(k, j, order), order);
                }
            }
            return Numbers.times(above, Numbers.inverse(below, order), order);
        }

        /** Of place i of the latest LIST: a to the power of f0, out of the weighed SHARES. */
        int joinedGift(int i) {
            int joined = 1;
            for (int j = 1; j <= size; j++) {
                if (weights[j] != 0) {
                    joined = group.multiplied(joined, group.raised(gift(j, i), weights[j]));
                }
            }
            return joined;
        }
    }

    /** The entries and their CHAIN. */
    private static final class Board {
        private final int[] kinds;
        private final int[] xs;
        private final int[] ys;
        private final long[] zs;
        private final long[] chains;
        private int size;

        Board() {
            kinds = new int[MOST_ENTRIES];
            xs = new int[MOST_ENTRIES];
            ys = new int[MOST_ENTRIES];
            zs = new long[MOST_ENTRIES];
            chains = new long[MOST_ENTRIES];
        }

        int size() {
            return size;
        }

        /** The CHAIN of the new entry. */
        long add(int kind, int x, int y, long z) {
            // Casts stop at ENTRIES_OPEN_TO_CASTS, and all else adds 75 at most: the board is never full.
            if (size >= MOST_ENTRIES) {
                return 0;
            }
            long chain = chainOf(size - 1);
            chain = Numbers.digested(chain, kind);
            chain = Numbers.digested(chain, x);
            chain = Numbers.digested(chain, y);
            chain = Numbers.digested(chain, z);
            kinds[size] = kind;
            xs[size] = x;
            ys[size] = y;
            zs[size] = z;
            chains[size] = chain;
            size++;
            return chain;
        }

        private boolean has(int i) {
            return i >= 0 && i < size;
        }

        long field(int i, int what) {
            if (!has(i)) {
                return 0;
            }
            switch (what) {
                case 0: return kinds[i];
                case 1: return xs[i];
                case 2: return ys[i];
                case 3: return zs[i];
                default: return 0;
            }
        }

        long chainOf(int i) {
            if (i == NONE) {
                return CHAIN_AHEAD_OF_ALL;
            }
            return has(i) ? chains[i] : 0;
        }
    }
}
